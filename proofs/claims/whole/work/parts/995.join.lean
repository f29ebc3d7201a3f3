/-! ===== joining and nesting on both sides ===== -/
theorem VF.grow {s s' : StT} {t t' : FT} {vn : Nat} {vf : Nat → Nat} (h : VF s t vn vf) (e2 : s'.1 2 = s.1 2) (e5 : s'.2.1 5 = s.2.1 5) (g1 : t.1 ≤ t'.1) (g2 : ∀ f, f < t.1 → t'.2.1 f = t.2.1 f ∧ t'.2.2.1 f = t.2.2.1 f ∧ t'.2.2.2 f = t.2.2.2 f) : VF s' t' vn vf := by
  refine ⟨by rw [e2]; exact h.1, fun v hv => ?_⟩
  have a := h.2 v hv
  have b := g2 _ a.2.1
  exact ⟨by rw [e5]; exact a.1, Nat.lt_of_lt_of_le a.2.1 g1, by rw [b.1]; exact a.2.2.1, by rw [b.2.1]; exact a.2.2.2⟩
theorem HS.join {D : HD} {sC sM sC' sM' : StT} (h : HS D sC sM) {k a b : Nat} (hk : 3 ≤ k ∧ k ≤ 5) (ha : a < D.1.1) (hb : b < D.1.1) (eC : CFt sC' (jn D.1 k a b).2) (eM : MF sM' (jn D.1 k a b).2) (fC : FrC sC sC') (fM : FrM sM sM') : HS ((jn D.1 k a b).2, D.2) sC' sM' ∧ Gd D ((jn D.1 k a b).2, D.2) := by
  obtain ⟨h1, h2, h3, h4, h5, h6, h7, h8⟩ := h
  have g := jn_grow D.1 k a b
  refine ⟨⟨eC, eM, h3.join hk ha hb, by rw [fC.1 7 (by decide)]; exact h4, h5.grow (fM.1 2 (by decide)) (fM.2.1 5 (by decide) (by decide) (by decide)) g.1 g.2, ?_, ?_, h8⟩, g.1, g.2, Nat.le_refl _⟩
  · intro v hv; rw [fC.2.2]; exact h6 v hv
  · intro v hv; rw [fM.2.1 4 (by decide) (by decide) (by decide), fM.2.1 3 (by decide) (by decide) (by decide)]; exact h7 v hv
theorem FrC.fr {s s' : StT} (h : FrC s s') : FRC s s' := ⟨fun j hj => h.1 j (by omega), fun j hj => h.2.1 j (by omega) (by omega) (by omega) (by omega) (by omega), fun j _ => by rw [h.2.2], fun j _ => by rw [h.2.2]⟩
theorem FrM.fr {s s' : StT} (h : FrM s s') (d : Nat) : FRM d s s' := ⟨fun j hj => h.1 j (by omega), fun j hj => h.2.1 j (by omega) (by omega) (by omega), fun j i h1 _ _ => by rw [h.2.1 j (by omega) (by omega) (by omega)], h.2.2⟩
theorem RB.grow {X : TX} {D D' : HD} {o : Nat} {sC sM sC' sM' : StT} (h : RB X D o sC sM) (hH : HS D' sC' sM') (fC : FrC sC sC') (fM : FrM sM sM') : RB X D' o sC' sM' :=
  ⟨hH, h.2.1.mv fC.fr (fM.fr 0), ⟨h.2.2.1.1, by rw [fC.1 11 (by decide)]; exact h.2.2.1.2⟩, by rw [fC.1 9 (by decide)]; exact h.2.2.2.1, by rw [fM.1 13 (by decide)]; exact h.2.2.2.2.1, by rw [fC.1 10 (by decide)]; exact h.2.2.2.2.2.1, by rw [fM.1 10 (by decide)]; exact h.2.2.2.2.2.2⟩
theorem RS.grow {X : TX} {D D' : HD} {p o : Nat} {sC sM sC' sM' : StT} (h : RS X D p o sC sM) (hH : HS D' sC' sM') (fC : FrC sC sC') (fM : FrM sM sM') : RS X D' p o sC' sM' := by
  refine ⟨h.1.grow hH fC fM, h.2.1, ?_⟩
  rcases h.2.2 with ⟨a, b, c, d⟩ | ⟨a, b, c, d, e, f, g, i, j, k, l⟩
  · exact Or.inl ⟨by rw [fC.1 2 (by decide)]; exact a, by rw [fM.1 8 (by decide)]; exact b, by rw [fC.1 5 (by decide)]; exact c, by rw [fM.1 4 (by decide)]; exact d⟩
  · exact Or.inr ⟨by rw [fC.1 2 (by decide)]; exact a, by rw [fM.1 8 (by decide)]; exact b, c, d, by rw [fC.1 3 (by decide)]; exact e, by rw [fC.1 4 (by decide)]; exact f, by rw [fC.1 5 (by decide)]; exact g, by rw [fM.1 5 (by decide)]; exact i, by rw [fM.1 6 (by decide)]; exact j, by rw [fM.1 7 (by decide)]; exact k, fun x => by rw [fC.2.2]; exact l x⟩
/-- a join: the same formula, or the fault 5 -/
theorem join2 {n : Nat} (hn : 100000 ≤ n) {X : TX} {D : HD} {p o : Nat} {sC sM : StT} (h : RS X D p o sC sM) {k a b : Nat} (hk : 3 ≤ k ∧ k ≤ 5) (ha : a < D.1.1) (hb : b < D.1.1) (x : Int32) :
    (∃ f D' sC' sM', f_X3_join n sC (nI k) (nI a) (nI b) x = some (nI f, sC') ∧ f_X12_madeAt n sM (nI k) (nI a) (nI b) x = some (nI f, sM') ∧ RS X D' p o sC' sM' ∧ f < D'.1.1 ∧ Gd D D' ∧ FRC sC sC' ∧ FrM sM sM')
    ∨ ∃ D' sC' sM', f_X3_join n sC (nI k) (nI a) (nI b) x = some (-1, sC') ∧ f_X12_madeAt n sM (nI k) (nI a) (nI b) x = some (-1, sM') ∧ RX D' sC' sM' ∧ Gd D D' ∧ FRC sC sC' ∧ ∀ d, FRM d sM sM' := by
  have hH := h.1.1
  have hw := hH.2.2.1
  have hl := hw.2.1
  have hc0 := h.1.2.2.2.2.2.1
  obtain ⟨c1, ec, ec1, ec2⟩ := joinedC hn hH.1 hw (k := k) (a := a) (b := b) (by omega) (by omega) (by omega)
  obtain ⟨m1, em, em1, em2⟩ := joinedM hn hH.2.1 hw (k := k) (a := a) (b := b) (by omega) (by omega) (by omega)
  have hg := hH.join hk ha hb ec1 em1 ec2 em2
  have hr := h.grow hg.1 ec2 em2
  cases e : (jn D.1 k a b).1 with
  | some f =>
    have hf := jn_lt e
    have hf2 : f < 2 ^ 31 := by have := hg.1.2.2.1.2.1; simp only [] at this; omega
    left
    refine ⟨f, _, c1, m1, ?_, ?_, hr, hf, hg.2, ec2.fr, em2⟩
    · unfold f_X3_join
      rw [if_pos hc0, ec, Option.bind_some]
      simp only []
      rw [e, if_neg (show ¬ oI (some f) < 0 from nI_nneg hf2)]
      rfl
    · unfold f_X12_madeAt
      rw [em, Option.bind_some]
      simp only []
      rw [e, if_pos (show 0 ≤ oI (some f) from nI_nn hf2)]
      rfl
  | none =>
    right
    refine ⟨_, uF (uF c1 10 5) 11 x, uF (uF m1 10 5) 11 x, ?_, ?_, HS.fault hg.1 (c := 5) (by decide) (by decide) rfl, hg.2, ec2.fr.tr (FRC.fl _ _ _), fun d => (em2.fr d).tr (FRM.fl _ _ _ _)⟩
    · unfold f_X3_join
      rw [if_pos hc0, ec, Option.bind_some]
      simp only []
      rw [e, if_pos (show oI none < 0 by decide)]
      unfold f_X3_fail
      rw [if_pos hr.1.2.2.2.2.2.1, Option.bind_some]
    · unfold f_X12_madeAt
      rw [em, Option.bind_some]
      simp only []
      rw [e, if_neg (show ¬ 0 ≤ oI none by decide)]
      unfold f_X12_fail
      rw [if_pos hr.1.2.2.2.2.2.2, Option.bind_some]
      rfl
/-- opening one more, and closing it -/
theorem opens2 {n : Nat} {X : TX} {D : HD} {p o : Nat} {sC sM : StT} (hB : RB X D o sC sM) (hT : Tk1 X.2.1 X.2.2 (skX X p) (tkX X (skX X p)) sC sM) :
    (o < 40 ∧ f_X3_opens n sC = some (1, uF (uF sC 9 (nI (o + 1))) 2 0) ∧ f_X12_nest n sM = some (1, uF sM 13 (nI (o + 1))) ∧ RB X D (o + 1) (uF sC 9 (nI (o + 1))) (uF sM 13 (nI (o + 1))) ∧ Tk1 X.2.1 X.2.2 (skX X p) (tkX X (skX X p)) (uF sC 9 (nI (o + 1))) (uF sM 13 (nI (o + 1))))
    ∨ (f_X3_opens n sC = some (0, uF (uF sC 10 3) 11 (nI (skX X p))) ∧ f_X12_nest n sM = some (0, uF (uF sM 10 3) 11 (nI (skX X p))) ∧ RX D (uF (uF sC 10 3) 11 (nI (skX X p))) (uF (uF sM 10 3) 11 (nI (skX X p)))) := by
  obtain ⟨h1, h2, h3, h4, h5, h6, h7⟩ := hB
  by_cases c : o < 40
  · left
    refine ⟨c, ?_, ?_, ⟨?_, ?_, ⟨by omega, h3.2⟩, rfl, rfl, h6, h7⟩, hT⟩
    · unfold f_X3_opens f_X8_take
      rw [if_pos (by rw [h4]; exact (nI_ltI (b := 40) (by omega) (by omega)).mpr c), Option.bind_some, h4, nI_1]
    · unfold f_X12_nest
      rw [if_neg (by rw [h5]; exact fun e => absurd (nI_inj (b := 40) (by omega) (by omega) e) (by omega)), h5, nI_1]
    · exact h1.mv rfl rfl (fun _ _ _ => rfl) rfl rfl rfl (fun _ _ => rfl)
    · exact h2.mv (FRC.op _ _) (FRM.op 0 _ _)
  · right
    refine ⟨?_, ?_, HS.fault h1 (c := 3) (by decide) (by decide) rfl⟩
    · unfold f_X3_opens f_X8_start
      rw [if_neg (by rw [h4]; exact fun e => c ((nI_ltI (b := 40) (by omega) (by omega)).mp e)), Option.bind_some]
      unfold f_X3_fail
      simp only []
      rw [if_pos h6, Option.bind_some, hT.2.2.2.2.2.1]
    · unfold f_X12_nest
      rw [if_pos (by rw [h5, show o = 40 by omega]; rfl)]
      unfold f_X12_fail
      rw [if_pos h7, Option.bind_some, hT.2.2.2.2.2.2.2.2.1]
      rfl
theorem RS.close {X : TX} {D : HD} {p o : Nat} {sC sM : StT} (h : RS X D p (o + 1) sC sM) : RS X D p o (uF sC 9 (sC.1 9 - 1)) (uF sM 13 (sM.1 13 - 1)) := by
  obtain ⟨⟨h1, h2, h3, h4, h5, h6, h7⟩, hp, hT⟩ := h
  refine ⟨⟨h1.mv rfl rfl (fun _ _ _ => rfl) rfl rfl rfl (fun _ _ => rfl), h2.mv (FRC.op _ _) (FRM.op 0 _ _), ⟨by omega, h3.2⟩, ?_, ?_, h6, h7⟩, hp, hT⟩
  · show sC.1 9 - 1 = _; rw [h4, nI_m1]
  · show sM.1 13 - 1 = _; rw [h5, nI_m1]
theorem RX.close {D : HD} {sC sM : StT} (h : RX D sC sM) (x : Int32) : RX D (uF sC 9 x) sM := h.mv rfl rfl rfl rfl (fun _ _ _ => rfl) rfl rfl rfl rfl rfl (fun _ _ => rfl)
/-- a token that must come next -/
theorem want2 {n : Nat} (hn : 100000 ≤ n) {X : TX} {D : HD} {p o : Nat} {sC sM : StT} (h : RS X D p o sC sM) {x y : Int32} (hx : x ≠ -1) (hy : y ≠ 262) (hxy : ∀ pr, pr ∈ TKP → (pr.1 = x ↔ pr.2 = y)) :
    (∃ p' sC' sM', f_X3_expect n sC x = some sC' ∧ f_X12_want n sM y = some (1, sM') ∧ RS X D p' o sC' sM' ∧ p ≤ p' ∧ (x ≠ 0 → p < p') ∧ FRC sC sC' ∧ (∀ d, FRM d sM sM') ∧ sM'.1 17 = sM.1 17 ∧ sM'.2 = sM.2)
    ∨ ∃ sC' sM', f_X3_expect n sC x = some sC' ∧ f_X12_want n sM y = some (0, sM') ∧ RX D sC' sM' ∧ FRC sC sC' ∧ (∀ d, FRM d sM sM') := by
  have hbt : ∀ i, i < X.2.1 → X.2.2 i < 256 := fun i hi => (h.1.2.1.1.2.2 i hi).2
  have hmem := hxy _ (tk_mem (tm := X.1) hbt (skX X p))
  rcases look2 hn h with ⟨c1, m1, ec, em, hB, hT, fC, fM, e17, e2⟩ | ⟨c1, m1, ec, em, hX, fC, fM, e17, e2⟩
  · unfold f_X3_expect f_X12_want
    rw [ec, em, Option.bind_some, Option.bind_some]
    simp only []
    by_cases c : (tkX X (skX X p)).1 = x
    · left
      have hk := take2 hB h.2.1 hT
      rw [if_pos c, if_pos (hmem.mp c)]
      unfold f_X8_take f_X12_pass
      rw [Option.bind_some, Option.bind_some]
      exact ⟨_, _, _, rfl, rfl, hk.1, hk.2.1, fun e => hk.2.2 (by rw [c]; exact e), fC.tr (FRC.tk _ _), fun d => (fM d).tr (FRM.ps _ _ _ _), e17, e2⟩
    · right
      rw [if_neg c, if_neg (fun e => c (hmem.mpr e))]
      unfold f_X8_start
      rw [Option.bind_some]
      unfold f_X3_fail f_X12_fail
      simp only []
      rw [if_pos hB.2.2.2.2.2.1, if_pos hB.2.2.2.2.2.2, Option.bind_some, Option.bind_some]
      exact ⟨_, _, rfl, rfl, HS.fault hB.1 (c := 2) (by decide) (by decide) (by rw [hT.2.2.2.2.2.1, hT.2.2.2.2.2.2.2.2.1]), fC.tr (FRC.fl _ _ _), fun d => (fM d).tr (FRM.fl _ _ _ _)⟩
  · right
    refine ⟨c1, m1, ?_, ?_, hX, fC, fM⟩
    · unfold f_X3_expect f_X8_start
      rw [ec, Option.bind_some]
      simp only []
      rw [if_neg (fun e => hx e.symm), Option.bind_some, fail_deadC hX.c0, Option.bind_some]
    · unfold f_X12_want f_X12_fail
      rw [em, Option.bind_some]
      simp only []
      rw [if_neg (fun e => hy e.symm), if_neg hX.m0, Option.bind_some]
      rfl
