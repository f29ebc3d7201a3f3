/-! ===== a premise failed: what its level does then ===== -/
/-- one level is set anew -/
def up1 (Lv : Nat → LD) (e : Nat) (A : LD) : Nat → LD := fun k => if k = e then A else Lv k
theorem up1_e (Lv : Nat → LD) (e : Nat) (A : LD) : up1 Lv e A e = A := by unfold up1; rw [if_pos rfl]
theorem up1_n (Lv : Nat → LD) {e k : Nat} (A : LD) (h : k ≠ e) : up1 Lv e A k = Lv k := by unfold up1; rw [if_neg h]
theorem LO.cg {sC sM : StT} {t : FT} {NC NR e : Nat} {Lv Lv' : Nat → LD} (h : LO sC sM t NC NR e Lv) (h1 : ∀ k, k < e → Lv' k = Lv k) (h2 : (Lv' e).1 = (Lv e).1) (h3 : bCL (Lv' e) = bCL (Lv e) ∧ bML (Lv' e) = bML (Lv e)) : LO sC sM t NC NR e Lv' := by
  refine ⟨fun k hk => ?_, fun k k' x y => ?_⟩
  · obtain ⟨a1, a2, a3⟩ := h.1 k hk
    rw [h1 k hk]
    refine ⟨a1, ?_, a3⟩
    by_cases c : k + 1 = e
    · rw [c, h2, ← c]; exact a2
    · rw [h1 (k + 1) (by omega)]; exact a2
  · have := h.2 k k' x y
    rw [h1 k (by omega)]
    by_cases c : k' = e
    · rw [c] at this ⊢; rw [h3.1, h3.2]; exact this
    · rw [h1 k' (by omega)]; exact this
theorem OUT.lv {n : Nat} {D : HD} {Lv : Nat → LD} {e NC NR nC nM nM2 : Nat} {A : LD} {sC sM : StT} {rc rm : Option (Int32 × StT)} (hA : A.1 = (Lv e).1) (hb : bCL A = bCL (Lv e) ∧ bML A = bML (Lv e)) (b1 : nM ≤ nM2) (b2 : nM2 + em A ≤ nM + em (Lv e)) (o : OUT n D (up1 Lv e A) e NC NR nC nM2 sC sM rc rm) : OUT n D Lv e NC NR nC nM sC sM rc rm := by
  obtain ⟨D', NC', NR', nC', nM', mo', s', m', y1, y2, y3, y4, y5⟩ := o
  refine ⟨D', NC', NR', nC', nM', mo', s', m', y1, y2, y3, y4, ?_⟩
  rcases y5 with z | ⟨z1, z2, z3, z4, z5, z6, z7⟩
  · exact Or.inl z
  · rw [up1_e] at z7
    have mk : mkL D'.1 A = mkL D'.1 (Lv e) := by unfold mkL; rw [hA]
    refine Or.inr ⟨z1, z2, z3, z4, by omega, z6.cg (fun k hk => (up1_n Lv A (by omega)).symm) (by rw [up1_e, hA]) (by rw [up1_e]; exact ⟨hb.1.symm, hb.2.symm⟩), ?_⟩
    rcases z7 with ⟨a1, a2, a3, a4, a5, a6, c, r, a7⟩ | ⟨a1, a2, a3, a4, a5, a6, p, a7⟩ | ⟨a1, a2, a3, a4, a5, A2, B, a6, a7, a8, a9⟩
    · rw [hA] at a7
      exact Or.inl ⟨a1, a2, a3, a4, a5, by omega, c, r, a7⟩
    · rw [hb.1, hb.2, mk] at a7
      exact Or.inr (Or.inl ⟨a1, a2, a3, a4, a5, by omega, p, a7⟩)
    · refine Or.inr (Or.inr ⟨a1, a2, a3, a4, a5, A2, B, a6.trans hA, by omega, ?_, a9⟩)
      have : upL (up1 Lv e A) e A2 B = upL Lv e A2 B := by
        funext k
        unfold upL
        by_cases c1 : k = e
        · rw [if_pos c1, if_pos c1]
        · rw [if_neg c1, if_neg c1]
          by_cases c2 : k = e + 1
          · rw [if_pos c2, if_pos c2]
          · rw [if_neg c2, if_neg c2, up1_n Lv A c1]
      rw [← this]; exact a8
/-- what both sides know when a premise has failed -/
def RF (D : HD) (Lv : Nat → LD) (e NC NR nC nM mo bC bM : Nat) (p : WN) (sC sM : StT) (R' : RW) : Prop := PRE D Lv e NC NR nC nM mo sC sM ∧ LVL sC sM D.1 NC NR e (Lv e) R' ∧ (∀ i, i < zz R' → fmR R' i < D.1.1) ∧ nCL (Lv e) ≤ bC ∧ nML (Lv e) ≤ bM ∧ FW sC sM bC bM nC nM (msk D.1 (fmR R') (zz R')) p ∧ sC.1 24 = nI p.2.1 ∧ sM.1 26 = nI p.2.2.2.2.1 ∧ nM + 1 < 2100
theorem RF.mk {D : HD} {Lv : Nat → LD} {e NC NR nC nM mo bC bM : Nat} {p : WN} {sC sM : StT} {R' : RW} (h : RF D Lv e NC NR nC nM mo bC bM p sC sM R') : mkL D.1 (Lv e) ||| sC.2.1 25 p.2.1 = sC.2.1 25 p.2.1 := by
  obtain ⟨h, hl, hb, _, _, hf, _⟩ := h
  have e1 : mkL D.1 (Lv e) ||| msk D.1 (fmR R') (zz R') = msk D.1 (fmR R') (zz R') := msk_sub h.1.1.2.2.1 (fun i hi => (h.2.2.1.2.2.2.2.1 i hi).1) hb hl.2.1
  have e2 := hf.2.2.2.2.2.1
  rw [← e2, ← Int32.or_assoc, e1]
/-- the level fails as its premise did -/
theorem fail_up {n : Nat} {D : HD} {Lv : Nat → LD} {e NC NR nC nM mo bC bM : Nat} {p : WN} {sC sM : StT} {R' : RW} (h : RF D Lv e NC NR nC nM mo bC bM p sC sM R') : OUT n D Lv e NC NR nC nM sC sM (some (0, sC)) (some (0, sM)) := by
  have hmk := h.mk
  obtain ⟨h, hl, hb, h1, h2, hf, h24, h26, hM2⟩ := h
  have hP := h.2.2.2.1
  have q1 := hP.1
  have q2 := hP.2.2.2.1
  obtain ⟨f1, f2, f3, f4, f5, f6, f7, f8⟩ := hf
  exact ⟨D, NC, NR, nC, nM, mo, sC, sM, ⟨XC.rf _, KGC.rf _ _ _⟩, XM.rf _, Gd.rf _, h.1.1, Or.inr ⟨h.1, Nat.le_refl _, Nat.le_refl _, Nat.le_refl _, Nat.le_refl _, h.2.1, Or.inr (Or.inl ⟨rfl, rfl, rfl, rfl, Nat.le_succ _, Nat.le_add_right _ _, p, ⟨f1, by omega, f3, by omega, f5, hmk, f7, f8⟩, h24, h26⟩)⟩⟩
/-- the level with its new child -/
theorem PRE.adopt {D : HD} {Lv : Nat → LD} {e NC NR nC nM nM2 mo : Nat} {L : List WN} {sC sM s m : StT} (h : PRE D Lv e NC NR nC nM mo sC sM) (hP : PL s m e (bCL (Lv e)) (bML (Lv e)) nC nM2 (mkL D.1 (Lv e)) L) (b1 : nM2 < 2100) (c1 : s.1 = sC.1) (c2 : ∀ j, j ≠ 27 → j ≠ 29 → j ≠ 30 → s.2.1 j = sC.2.1 j) (c3 : ∀ i, i < bCL (Lv e) → s.2.1 27 i = sC.2.1 27 i) (c4 : ∀ j i, (j = 29 ∨ j = 30) → i ≠ e → s.2.1 j i = sC.2.1 j i) (c5 : s.2.2 = sC.2.2) (m1 : m.1 30 = nI nM2) (m2 : ∀ j, j ≠ 30 → m.1 j = sM.1 j) (m3 : ∀ j, (j < 28 ∨ 32 < j) → m.2.1 j = sM.2.1 j) (m4 : ∀ i, i ≠ e → m.2.1 28 i = sM.2.1 28 i) (m5 : ∀ j i, 28 < j → j < 33 → i < bML (Lv e) → m.2.1 j i = sM.2.1 j i) (m6 : m.2.2 = sM.2.2) :
    PRE D (up1 Lv e ((Lv e).1, (Lv e).2.1, (bCL (Lv e), bML (Lv e), nC, nM2), L)) e NC NR nC nM2 mo s m ∧ (XC sC s ∧ KGC 0 NC sC s) ∧ XM sM m := by
  obtain ⟨hS, hLO, hRR, _, _, _, hd, d1, d2, d3, _⟩ := h
  have hw := hS.1.2.2.1
  have fC : ∀ b, b ≤ bCL (Lv e) → FLC e NC b sC s ∧ KGC (e + 1) NC sC s := fun b hb => ⟨⟨⟨fun j r p _ => by rw [c2 j (by omega) (by omega) (by omega)], fun j r p _ => by rw [c2 j (by omega) (by omega) (by omega)], fun j r p q _ => by rw [c2 j (by omega) (by omega) (by omega)]⟩, fun j r p q z => by
      by_cases cj : j = 29 ∨ j = 30
      · exact c4 j r cj (by omega)
      · rw [c2 j (by omega) (by omega) (by omega)], fun j r p q z => by
      by_cases cj : j = 27
      · rw [cj]; exact c3 r (by omega)
      · rw [c2 j cj (by omega) (by omega)]⟩, ⟨fun j r p _ => by rw [c2 j (by omega) (by omega) (by omega)], fun j r p _ => by rw [c2 j (by omega) (by omega) (by omega)], fun j r p q _ => by rw [c2 j (by omega) (by omega) (by omega)]⟩⟩
  have fM : FLM e NR (bML (Lv e)) sM m ∧ KGM (e + 1) NR sM m := ⟨⟨⟨fun j r p _ => by rw [m3 j (by omega)], fun j r p _ => by rw [m3 j (by omega)], fun j r p q _ => by rw [m3 j (by omega)]⟩, fun j r p q z => by
      by_cases cj : j = 28
      · rw [cj]; exact m4 r (by omega)
      · rw [m3 j (by omega)], fun j r p q z => m5 j r p q z⟩, ⟨fun j r p _ => by rw [m3 j (by omega)], fun j r p _ => by rw [m3 j (by omega)], fun j r p q _ => by rw [m3 j (by omega)]⟩⟩
  have hHS : HS D s m := hS.1.mv (by rw [c1]) (by rw [c1]) (fun j x y => c2 j (by omega) (by omega) (by omega)) (by rw [c5]) (m2 0 (by decide)) (m2 2 (by decide)) (fun j x => m3 j (by omega))
  refine ⟨⟨⟨hHS, by rw [c1]; exact hS.2.1, (m2 18 (by decide)).trans hS.2.2.1, by rw [c1]; exact hS.2.2.2.1, m1, by rw [c1]; exact hS.2.2.2.2.2.1, (m2 22 (by decide)).trans hS.2.2.2.2.2.2.1, hS.2.2.2.2.2.2.2⟩, (hLO.gr hw (fC _ (Nat.le_refl _)).1 fM.1 (Nat.le_refl _) (fun _ _ => ⟨rfl, rfl, rfl⟩) (Nat.le_refl _) (Nat.le_refl _)).cg (fun k hk => up1_n Lv _ (by omega)) (by rw [up1_e]) (by rw [up1_e]; exact ⟨rfl, rfl⟩), ?_, ?_, ?_, ?_, hd, d1, d2, d3, b1⟩, ⟨⟨fun j _ _ _ _ _ => by rw [c1], fun j p => c2 j (by omega) (by omega) (by omega), c5⟩, (fC _ (Nat.le_refl _)).2.lo (Nat.zero_le _)⟩, ⟨fun j _ _ _ _ _ _ p => m2 j p, fun j p => m3 j (by omega), m6⟩⟩
  · rw [up1_e]; exact hRR.gr (Nat.lt_succ_self e) (fC _ (Nat.le_refl _)).2 fM.2 (Nat.le_refl _) (Nat.le_refl _) (Nat.le_refl _)
  · rw [up1_e]; exact hP
  · rw [up1_e]; exact Nat.le_refl _
  · rw [up1_e]; exact Nat.le_refl _
theorem failC {n : Nat} {s : StT} {e k : Nat} (he : e < 200) (h : s.2.1 31 e = nI k) : f_X5_goOn n s (nI e) 0 = (if nI k = 6 then ((f_X4_adopt n s (nI e) (s.1 24)).bind fun q45 => ((f_X6_goalOf n q45 (nI e)).bind fun q63 => ((f_X1_secondOf_F0 n q63.2 q63.1).bind fun q66 => ((f_X6_follow n q66.2 (nI e) (-1 : Int32) q66.1).bind fun q69 => (f_X5_waitFor n q69 (nI e) (7 : Int32)))))) else (if nI k = 7 then ((f_X4_adopt n s (nI e) (s.1 24)).bind fun q89 => (f_X5_tryNested n q89 (nI e) (0 : Int32))) else (if nI k = 8 then ((f_X4_adopt n s (nI e) (s.1 24)).bind fun q108 => ((f_X5_kept_43 n q108 (nI e)).bind fun q118 => (f_X5_tryNested n q118.2 (nI e) (q118.1 + (1 : Int32))))) else (some ((0 : Int32), s))))) := by
  unfold f_X5_goOn f_X5_goOnFailed
  rw [if_neg (nI_nneg (by omega)), if_pos (show nI e < (200 : Int32) from (nI_ltI (b := 200) (by omega) (by omega)).mpr he), if_neg (show ¬ (0 : Int32) = 1 by decide), (kept42 he).1, Option.bind_some, h]
  simp only [bind_eta]
theorem fail_05 {n : Nat} {D : HD} {Lv : Nat → LD} {e NC NR nC nM mo bC bM : Nat} {p : WN} {sC sM : StT} {R' : RW} (h : RF D Lv e NC NR nC nM mo bC bM p sC sM R') (hst : stL (Lv e) ≤ 5) : OUT n D Lv e NC NR nC nM sC sM (f_X5_goOn n sC (nI e) 0) (f_X12_resumed n sM (nI e) 0) := by
  have hd := h.1.2.2.2.2.2.2.1
  obtain ⟨l1, l2, _⟩ := h.2.1.1
  have eC : f_X5_goOn n sC (nI e) 0 = some (0, sC) := by
    rw [failC hd l1, if_neg (fun x => by have := nI_inj (b := 6) (by omega) (by omega) x; omega), if_neg (fun x => by have := nI_inj (b := 7) (by omega) (by omega) x; omega), if_neg (fun x => by have := nI_inj (b := 8) (by omega) (by omega) x; omega)]
  have eM : f_X12_resumed n sM (nI e) 0 = some (0, sM) := by
    unfold f_X12_resumed
    rw [inB_nI (show e < 201 by omega) (by omega), nI_cl (show e < 2 ^ 31 by omega), l2]
    simp only [if_true]
    rcases (show stL (Lv e) = 0 ∨ stL (Lv e) = 1 ∨ stL (Lv e) = 2 ∨ stL (Lv e) = 3 ∨ stL (Lv e) = 4 ∨ stL (Lv e) = 5 by omega) with x | x | x | x | x | x <;> rw [x]
    · rw [if_pos (show nI (0 + 1) = (1 : Int32) by decide)]
    · rw [if_neg (show ¬ nI (1 + 1) = (1 : Int32) by decide), if_pos (show nI (1 + 1) = (2 : Int32) by decide)]
    · rw [if_neg (show ¬ nI (2 + 1) = (1 : Int32) by decide), if_neg (show ¬ nI (2 + 1) = (2 : Int32) by decide), if_pos (show nI (2 + 1) = (3 : Int32) by decide)]
    · rw [if_neg (show ¬ nI (3 + 1) = (1 : Int32) by decide), if_neg (show ¬ nI (3 + 1) = (2 : Int32) by decide), if_neg (show ¬ nI (3 + 1) = (3 : Int32) by decide), if_pos (show nI (3 + 1) = (4 : Int32) by decide)]
    · rw [if_neg (show ¬ nI (4 + 1) = (1 : Int32) by decide), if_neg (show ¬ nI (4 + 1) = (2 : Int32) by decide), if_neg (show ¬ nI (4 + 1) = (3 : Int32) by decide), if_neg (show ¬ nI (4 + 1) = (4 : Int32) by decide), if_pos (show nI (4 + 1) = (5 : Int32) by decide)]
    · rw [if_neg (show ¬ nI (5 + 1) = (1 : Int32) by decide), if_neg (show ¬ nI (5 + 1) = (2 : Int32) by decide), if_neg (show ¬ nI (5 + 1) = (3 : Int32) by decide), if_neg (show ¬ nI (5 + 1) = (4 : Int32) by decide), if_neg (show ¬ nI (5 + 1) = (5 : Int32) by decide), if_pos (show nI (5 + 1) = (6 : Int32) by decide)]
  rw [eC, eM]
  exact fail_up h
