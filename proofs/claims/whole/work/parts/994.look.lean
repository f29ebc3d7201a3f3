/-! ===== look, take, open, want and join on both sides ===== -/
theorem nI_nn {a : Nat} (h : a < 2 ^ 31) : 0 ≤ nI a := (nI_leI (a := 0) (by decide) h).mpr (Nat.zero_le _)
theorem RB.mv {X : TX} {D : HD} {o : Nat} {sC sM sC' sM' : StT} (h : RB X D o sC sM) (aF : ∀ j, j ≠ 2 → j ≠ 3 → j ≠ 4 → j ≠ 5 → sC'.1 j = sC.1 j) (aA : sC'.2.1 = sC.2.1) (aN : sC'.2.2.2 = sC.2.2.2) (bF : ∀ j, j ≠ 4 → j ≠ 5 → j ≠ 6 → j ≠ 7 → j ≠ 8 → j ≠ 17 → sM'.1 j = sM.1 j) (bA : ∀ j, (j < 10 ∨ 13 < j) → sM'.2.1 j = sM.2.1 j) : RB X D o sC' sM' := by
  obtain ⟨h1, ⟨g1, g2, g3, g4⟩, h3, h4, h5, h6, h7⟩ := h
  refine ⟨h1.mv (aF 6 (by decide) (by decide) (by decide) (by decide)) (aF 7 (by decide) (by decide) (by decide) (by decide)) (fun j _ _ => by rw [aA]) (by rw [aN]) (bF 0 (by decide) (by decide) (by decide) (by decide) (by decide) (by decide)) (bF 2 (by decide) (by decide) (by decide) (by decide) (by decide) (by decide)) (fun j hj => bA j (by omega)), ⟨?_, ?_, ?_, ?_⟩, ⟨h3.1, by rw [aF 11 (by decide) (by decide) (by decide) (by decide)]; exact h3.2⟩, ?_, ?_, ?_, ?_⟩
  · unfold TxC at g1 ⊢; rw [aF 0 (by decide) (by decide) (by decide) (by decide), aA]; exact g1
  · unfold TxM at g2 ⊢; rw [bF 3 (by decide) (by decide) (by decide) (by decide) (by decide) (by decide), bA 6 (by decide)]; exact g2
  · rw [aF 1 (by decide) (by decide) (by decide) (by decide)]; exact g3
  · rw [bF 9 (by decide) (by decide) (by decide) (by decide) (by decide) (by decide)]; exact g4
  · rw [aF 9 (by decide) (by decide) (by decide) (by decide)]; exact h4
  · rw [bF 13 (by decide) (by decide) (by decide) (by decide) (by decide) (by decide)]; exact h5
  · rw [aF 10 (by decide) (by decide) (by decide) (by decide)]; exact h6
  · rw [bF 10 (by decide) (by decide) (by decide) (by decide) (by decide) (by decide)]; exact h7
/-- both sides set down the same fault -/
theorem HS.fault {D : HD} {sC sM : StT} (h : HS D sC sM) {c : Nat} (hc : c ≠ 0) (hc' : c < 10) {x y : Int32} (e : x = y) : RX D (uF (uF sC 10 (nI c)) 11 x) (uF (uF sM 10 (nI c)) 11 y) :=
  ⟨h.mv rfl rfl (fun _ _ _ => rfl) rfl rfl rfl (fun _ _ => rfl), c, hc, hc', rfl, rfl, e⟩
theorem FRC.fl (s : StT) (x y : Int32) : FRC s (uF (uF s 10 x) 11 y) := ⟨fun j h => by
  simp only [uF_1]; rw [if_neg (by omega), if_neg (by omega)], fun _ _ => rfl, fun _ _ => rfl, fun _ _ => rfl⟩
theorem FRM.fl (d : Nat) (s : StT) (x y : Int32) : FRM d s (uF (uF s 10 x) 11 y) := ⟨fun j h => by
  simp only [uF_1]; rw [if_neg (by omega), if_neg (by omega)], fun _ _ => rfl, fun _ _ _ _ _ => rfl, rfl⟩
theorem nI_c0 {c : Nat} (h : c ≠ 0) (h' : c < 10) : ¬ nI c = 0 := fun e => h (nI_inj (by omega) (by decide) e)
theorem RX.c0 {D : HD} {sC sM : StT} (h : RX D sC sM) : ¬ sC.1 10 = 0 := by
  obtain ⟨_, c, h1, h2, h3, _⟩ := h
  rw [h3]; exact nI_c0 h1 h2
theorem RX.m0 {D : HD} {sC sM : StT} (h : RX D sC sM) : ¬ sM.1 10 = 0 := by
  obtain ⟨_, c, h1, h2, _, h3, _⟩ := h
  rw [h3]; exact nI_c0 h1 h2
theorem RX.mv {D : HD} {sC sM sC' sM' : StT} (h : RX D sC sM) (a10 : sC'.1 10 = sC.1 10) (a11 : sC'.1 11 = sC.1 11) (a6 : sC'.1 6 = sC.1 6) (a7 : sC'.1 7 = sC.1 7) (aA : ∀ j, 1 < j → j < 7 → sC'.2.1 j = sC.2.1 j) (aN : sC'.2.2.2 0 = sC.2.2.2 0) (b10 : sM'.1 10 = sM.1 10) (b11 : sM'.1 11 = sM.1 11) (b0 : sM'.1 0 = sM.1 0) (b2 : sM'.1 2 = sM.1 2) (bA : ∀ j, j < 6 → sM'.2.1 j = sM.2.1 j) : RX D sC' sM' := by
  obtain ⟨h1, c, h2, h3, h4, h5, h6⟩ := h
  exact ⟨h1.mv a6 a7 aA aN b0 b2 bA, c, h2, h3, by rw [a10]; exact h4, by rw [b10]; exact h5, by rw [a11, b11]; exact h6⟩
theorem look_deadC {n : Nat} {s : StT} (h : ¬ s.1 10 = 0) : f_X3_look n s = some (-1, s) := by
  unfold f_X3_look; rw [if_neg h]
theorem fail_deadC {n : Nat} {s : StT} (h : ¬ s.1 10 = 0) (x y : Int32) : f_X3_fail n s x y = some (-1, s) := by
  unfold f_X3_fail; rw [if_neg h]
theorem join_deadC {n : Nat} {s : StT} (h : ¬ s.1 10 = 0) (x y z w : Int32) : f_X3_join n s x y z w = some (-1, s) := by
  unfold f_X3_join; rw [if_neg h]
theorem expect_deadC {n : Nat} {s : StT} (h : ¬ s.1 10 = 0) {x : Int32} (hx : x ≠ -1) : f_X3_expect n s x = some s := by
  unfold f_X3_expect f_X8_start
  rw [look_deadC h, Option.bind_some]
  simp only []
  rw [if_neg (fun e => hx e.symm), Option.bind_some, fail_deadC h, Option.bind_some]
/-- a look: a token that both know, or the fault 1 -/
theorem look2 {n : Nat} (hn : 100000 ≤ n) {X : TX} {D : HD} {p o : Nat} {sC sM : StT} (h : RS X D p o sC sM) :
    (∃ sC' sM', f_X3_look n sC = some ((tkX X (skX X p)).1, sC') ∧ f_X12_look n sM = some ((tkX X (skX X p)).2.1, sM') ∧ RB X D o sC' sM' ∧ Tk1 X.2.1 X.2.2 (skX X p) (tkX X (skX X p)) sC' sM' ∧ FRC sC sC' ∧ (∀ d, FRM d sM sM') ∧ sM'.1 17 = sM.1 17 ∧ sM'.2 = sM.2)
    ∨ ∃ sC' sM', f_X3_look n sC = some (-1, sC') ∧ f_X12_look n sM = some (262, sM') ∧ RX D sC' sM' ∧ FRC sC sC' ∧ (∀ d, FRM d sM sM') ∧ sM'.1 17 = sM.1 17 ∧ sM'.2 = sM.2 := by
  obtain ⟨hB, hp, hT⟩ := h
  have hc0 := hB.2.2.2.2.2.1
  have hm0 := hB.2.2.2.2.2.2
  rcases hT with ⟨t1, t2, t3, t4⟩ | hT
  · obtain ⟨x1, x2, x3, x4⟩ := hB.2.1
    obtain ⟨c1, ec, ec3, ec4, ec5, ecA, ecN⟩ := scanC hn x1 x3 t1 t3 hp
    obtain ⟨m1, em, em5, em6, em8, em7, emA⟩ := scanM hn x2 x4 t4 hp
    have hbt : ∀ i, i < X.2.1 → X.2.2 i < 256 := fun i hi => (x1.2.2 i hi).2
    have hmem := tk_mem (tm := X.1) hbt (skX X p)
    have hm1 := tkp_m1 _ hmem
    have hbC : RB X D o (uF c1 2 1) m1 := hB.mv (fun j a b c d => by
        simp only [uF_1]; rw [if_neg a]; exact ecA.1 j b c d) ecA.2.1 ecA.2.2.1 (fun j a b c d e _ => emA.1 j a b c d e) (fun j _ => by rw [emA.2])
    have hlC : f_X8_look n sC = some ((tkX X (skX X p)).1, uF c1 2 1) := by
      rw [ec, show c1.1 3 = (tkX X (skX X p)).1 from ec3]
    have fC : FRC sC (uF c1 2 1) := ⟨fun j hj => by
        simp only [uF_1]; rw [if_neg (by omega)]; exact ecA.1 j (by omega) (by omega) (by omega), fun j _ => congrFun ecA.2.1 j, ecA.2.2.2, fun j _ => congrFun ecA.2.2.1 j⟩
    have fM : ∀ d, FRM d sM m1 := fun d => ⟨fun j hj => emA.1 j (by omega) (by omega) (by omega) (by omega) (by omega), fun j _ => by rw [emA.2], fun j i _ _ _ => by rw [emA.2], by rw [emA.2]⟩
    by_cases c : (tkX X (skX X p)).1 = -1
    · right
      have cM : (tkX X (skX X p)).2.1 = 262 := hm1.mp c
      refine ⟨uF (uF (uF c1 2 1) 10 1) 11 (nI (skX X p)), uF (uF m1 10 1) 11 (nI (skX X p)), ?_, ?_, HS.fault hbC.1 (c := 1) (by decide) (by decide) rfl, fC.tr (FRC.fl _ _ _), fun d => (fM d).tr (FRM.fl _ _ _ _), ?_, ?_⟩
      · unfold f_X3_look
        rw [if_pos hc0, hlC, Option.bind_some]
        simp only []
        rw [if_pos c]
        unfold f_X8_start
        rw [Option.bind_some]
        unfold f_X3_fail
        simp only []
        rw [if_pos (show (uF c1 2 1).1 10 = 0 from hbC.2.2.2.2.2.1), Option.bind_some, c, show (uF c1 2 1).1 4 = nI (skX X p) from ec4]
      · unfold f_X12_look
        rw [if_pos t2, em, Option.bind_some, if_pos (show m1.1 5 = 262 by rw [em5]; exact cM)]
        unfold f_X12_fail
        rw [if_pos (show m1.1 10 = 0 from hbC.2.2.2.2.2.2), Option.bind_some]
        unfold f_X12_look_31
        rw [if_neg (show ¬ (uF (uF m1 10 1) 11 (m1.1 6)).1 10 = 0 by simp [uF_1]), em6]
      · simp only [uF_1]; exact emA.1 17 (by decide) (by decide) (by decide) (by decide) (by decide)
      · exact emA.2
    · left
      have cM : (tkX X (skX X p)).2.1 ≠ 262 := fun e => c (hm1.mpr e)
      refine ⟨uF c1 2 1, m1, ?_, ?_, hbC, ⟨rfl, em8, c, cM, ec3, ec4, ec5, em5, em6, em7 cM, fun e => ?_⟩, fC, fM, emA.1 17 (by decide) (by decide) (by decide) (by decide) (by decide), emA.2⟩
      · unfold f_X3_look
        rw [if_pos hc0, hlC, Option.bind_some]
        simp only []
        rw [if_neg c]
      · unfold f_X12_look
        rw [if_pos t2, em, Option.bind_some, if_neg (show ¬ m1.1 5 = 262 by rw [em5]; exact cM)]
        unfold f_X12_look_31
        rw [if_pos (show m1.1 10 = 0 from hbC.2.2.2.2.2.2), em5]
      · have hn' := tk_name hbt e
        have := ecN hn'.1 hn'.2.1 hn'.2.2.1
        rw [hn'.2.2.2]
        exact this
  · left
    refine ⟨sC, sM, ?_, ?_, hB, hT, FRC.rf _, fun d => FRM.rf d _, rfl, rfl⟩
    · unfold f_X3_look f_X8_look
      rw [if_pos hc0, if_neg (show ¬ sC.1 2 = 0 by rw [hT.1]; decide), Option.bind_some]
      simp only []
      rw [hT.2.2.2.2.1, if_neg hT.2.2.1]
    · unfold f_X12_look
      rw [if_neg (show ¬ sM.1 8 = 0 by rw [hT.2.1]; decide)]
      unfold f_X12_look_31
      rw [if_pos hm0, hT.2.2.2.2.2.2.2.1]
/-- the token looked at is taken by both -/
theorem take2 {X : TX} {D : HD} {p o : Nat} {sC sM : StT} (hB : RB X D o sC sM) (hp : p ≤ X.2.1) (hT : Tk1 X.2.1 X.2.2 (skX X p) (tkX X (skX X p)) sC sM) : RS X D (skX X p + (tkX X (skX X p)).2.2) o (uF sC 2 0) (uF (uF sM 4 (sM.1 6 + sM.1 7)) 8 0) ∧ p ≤ skX X p + (tkX X (skX X p)).2.2 ∧ ((tkX X (skX X p)).1 ≠ 0 → p < skX X p + (tkX X (skX X p)).2.2) := by
  have hk := sk_bd (tn := X.2.1) (bt := X.2.2) (X.2.1 - p) p (by omega)
  have hs := tk_size (tm := X.1) (bt := X.2.2) hk.2.1
  have hl := hB.2.1.1.1
  refine ⟨⟨hB.mv (fun j a _ _ _ => by simp only [uF_1]; rw [if_neg a]) rfl rfl (fun j a _ _ _ b _ => by simp only [uF_1]; rw [if_neg b, if_neg a]) (fun _ _ => rfl), hs.1, Or.inl ⟨rfl, rfl, hT.2.2.2.2.2.2.1, ?_⟩⟩, ?_, fun h => ?_⟩
  · show sM.1 6 + sM.1 7 = _
    rw [hT.2.2.2.2.2.2.2.2.1, hT.2.2.2.2.2.2.2.2.2.1, nI_add]
  · have := hk.1; show p ≤ sk X.2.1 X.2.2 p + _; omega
  · have := hs.2.1 hT.2.2.1 h
    have := hk.1
    show p < sk X.2.1 X.2.2 p + (tk X.1 X.2.1 X.2.2 (sk X.2.1 X.2.2 p)).2.2
    omega
theorem FRC.tk (s : StT) (x : Int32) : FRC s (uF s 2 x) := ⟨fun j h => by simp only [uF_1]; rw [if_neg (by omega)], fun _ _ => rfl, fun _ _ => rfl, fun _ _ => rfl⟩
theorem FRC.op (s : StT) (x : Int32) : FRC s (uF s 9 x) := ⟨fun j h => by simp only [uF_1]; rw [if_neg (by omega)], fun _ _ => rfl, fun _ _ => rfl, fun _ _ => rfl⟩
theorem FRM.ps (d : Nat) (s : StT) (x y : Int32) : FRM d s (uF (uF s 4 x) 8 y) := ⟨fun j h => by simp only [uF_1]; rw [if_neg (by omega), if_neg (by omega)], fun _ _ => rfl, fun _ _ _ _ _ => rfl, rfl⟩
theorem FRM.op (d : Nat) (s : StT) (x : Int32) : FRM d s (uF s 13 x) := ⟨fun j h => by simp only [uF_1]; rw [if_neg (by omega)], fun _ _ => rfl, fun _ _ _ _ _ => rfl, rfl⟩
theorem FRM.vl (d : Nat) (s : StT) (x : Int32) : FRM d s (uF s 17 x) := ⟨fun j h => by simp only [uF_1]; rw [if_neg (by omega)], fun _ _ => rfl, fun _ _ _ _ _ => rfl, rfl⟩
theorem FRM.ar {d e : Nat} (s : StT) (k : Nat) (i x : Int32) (hk : 9 < k ∧ k < 14) (hi : i = nI e) (hd : d ≤ e) (he : e < 2 ^ 31) : FRM d s (uA s k i x) := ⟨fun _ _ => rfl, fun j h => by simp only [uA_21]; rw [if_neg (by omega)], fun j a h1 h2 h3 => by
  simp only [uA_21]
  by_cases c : j = k
  · rw [if_pos c, upd_j, hi, nI_cl he, if_neg (by omega)]
  · rw [if_neg c], rfl⟩
