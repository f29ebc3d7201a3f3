/-! ===== a level fails: no rule is left ===== -/
theorem aU_fr {s : StT} {N e T : Nat} {mk : Int32} (hN : N < 2000) : (∀ j, j ≠ 18 → (aU s N e mk T).1 j = s.1 j) ∧ (aU s N e mk T).1 18 = nI (N + 1) ∧ (∀ j, (j < 25 ∨ 28 < j) → (aU s N e mk T).2.1 j = s.2.1 j) ∧ (∀ j r, r ≠ N → (aU s N e mk T).2.1 j r = s.2.1 j r) ∧ (aU s N e mk T).2.2 = s.2.2 := by
  refine ⟨fun j hj => ?_, rfl, fun j hj => ?_, fun j r hr => ?_, rfl⟩
  · unfold aU; simp only [uF_1, uA_1]; rw [if_neg hj]
  · unfold aU; simp only [uF_2, uA_21]; rw [if_neg (by omega), if_neg (by omega), if_neg (by omega), if_neg (by omega)]
  · unfold aU
    simp only [uF_2, uA_21]
    by_cases c1 : j = 28
    · rw [if_pos c1, upd_j, nI_cl (show N < 2 ^ 31 by omega), if_neg hr, c1]; rfl
    · rw [if_neg c1]
      by_cases c2 : j = 27
      · rw [if_pos c2, upd_j, nI_cl (show N < 2 ^ 31 by omega), if_neg hr, c2]; rfl
      · rw [if_neg c2]
        by_cases c3 : j = 26
        · rw [if_pos c3, upd_j, nI_cl (show N < 2 ^ 31 by omega), if_neg hr, c3]; rfl
        · rw [if_neg c3]
          by_cases c4 : j = 25
          · rw [if_pos c4, upd_j, nI_cl (show N < 2 ^ 31 by omega), if_neg hr, c4]
          · rw [if_neg c4]
theorem fin_out {n : Nat} (hn : 100000 ≤ n) {D : HD} {Lv : Nat → LD} {d NC NR nC nM mo m nM2 : Nat} {sC sM sM' : StT} (h : PRE D Lv d NC NR nC nM mo sC sM) (e30 : sM'.1 30 = nI nM2) (eF : ∀ j, j ≠ 30 → sM'.1 j = sM.1 j) (eA : ∀ j, (j < 28 ∨ 32 < j) → sM'.2.1 j = sM.2.1 j) (e28 : ∀ i, i ≠ d → sM'.2.1 28 i = sM.2.1 28 i) (eW : ∀ j i, 28 < j → j < 33 → i < nM → sM'.2.1 j i = sM.2.1 j i) (eR : sM'.2.2 = sM.2.2) (b1 : nM ≤ nM2) (b2 : nM2 ≤ nM + em (Lv d)) (b3 : nM2 ≤ 2100) (hm : (lsL (Lv d) = [] ∧ m = nM ∧ m < nM2 ∧ sM'.2.1 29 m = -1 ∧ sM'.2.1 32 m = mkL D.1 (Lv d) ∧ sM'.2.1 31 m = -1) ∨ (lsL (Lv d) ≠ [] ∧ sM.2.1 28 d = nI m ∧ m < 2 ^ 31)) :
    OUT n D Lv d NC NR nC nM sC sM ((f_X5_variablesIn n sC (nI d)).bind fun q87 => ((f_X4_add n q87.2 (nI d) q87.1).bind fun q90 => (some ((0 : Int32), (uF q90.2 24 q90.1))))) (some (0, uF sM' 26 (nI m))) := by
  have hlt := h.lt
  obtain ⟨hS, hLO, hRR, hPL, c1, c2, hd, hNC, hNR, hnC, hnM⟩ := h
  have hw := hS.1.2.2.1
  obtain ⟨f1, f2⟩ := hPL.fin (n := n) hn (sM' := sM') (nM2 := nM2) hd c1 hnC hS.2.2.2.1 c2 b3 b1 hm (fun j i x y z => eW j i x y (by omega))
  have fr := aU_fr (s := sC) (e := d) (mk := mkL D.1 (Lv d)) (T := 1 + sumT (lsL (Lv d))) hnC
  rw [varsC hn hS.1.1 hw hRR.1 (by omega) (fun i hi => (hRR.2.2.2.2.1 i hi).1), Option.bind_some]
  simp only []
  rw [show msk D.1 (fmR (Lv d).1) (zz (Lv d).1) = mkL D.1 (Lv d) from rfl, f1, Option.bind_some]
  simp only []
  generalize aU sC nC d (mkL D.1 (Lv d)) (1 + sumT (lsL (Lv d))) = s at f2 fr
  obtain ⟨a1, a2, a3, a4, a5⟩ := fr
  have fC : FLC d NC (bCL (Lv d)) sC (uF s 24 (nI nC)) := ⟨⟨fun j r p _ => by show s.2.1 j r = _; rw [a3 j (by omega)], fun j r p _ => by show s.2.1 j r = _; rw [a3 j (by omega)], fun j r p q _ => by show s.2.1 j r = _; rw [a3 j (by omega)]⟩, fun j r p q _ => by show s.2.1 j r = _; rw [a3 j (by omega)], fun j r p q z => a4 j r (by omega)⟩
  have fM : FLM d NR (bML (Lv d)) sM (uF sM' 26 (nI m)) := ⟨⟨fun j r p _ => by show sM'.2.1 j r = _; rw [eA j (by omega)], fun j r p _ => by show sM'.2.1 j r = _; rw [eA j (by omega)], fun j r p q _ => by show sM'.2.1 j r = _; rw [eA j (by omega)]⟩, fun j r p q z => by
    show sM'.2.1 j r = _
    by_cases cj : j = 28
    · rw [cj]; exact e28 r (by omega)
    · rw [eA j (by omega)], fun j r p q z => eW j r p q (by omega)⟩
  have hHS : HS D (uF s 24 (nI nC)) (uF sM' 26 (nI m)) := hS.1.mv (a1 6 (by decide)) (a1 7 (by decide)) (fun j x y => a3 j (by omega)) (by show s.2.2.2 0 = _; rw [a5]) (eF 0 (by decide)) (eF 2 (by decide)) (fun j x => eA j (by omega))
  refine ⟨D, NC, NR, nC + 1, nM2, mo, uF s 24 (nI nC), uF sM' 26 (nI m), ⟨⟨fun j _ _ _ p q => by simp only [uF_1]; rw [if_neg q]; exact a1 j p, fun j p => a3 j (by omega), a5⟩, fC.1.lo (Nat.zero_le _)⟩, ⟨fun j _ _ _ _ _ p q => by simp only [uF_1]; rw [if_neg p]; exact eF j q, fun j p => eA j (by omega), eR⟩, Gd.rf _, hHS, Or.inr ⟨⟨hHS, (a1 16 (by decide)).trans hS.2.1, (eF 18 (by decide)).trans hS.2.2.1, a2, e30, (a1 17 (by decide)).trans hS.2.2.2.2.2.1, (eF 22 (by decide)).trans hS.2.2.2.2.2.2.1, hS.2.2.2.2.2.2.2⟩, Nat.le_refl _, Nat.le_refl _, Nat.le_succ _, b1, hLO.gr hw fC fM (Nat.le_refl _) (fun _ _ => ⟨rfl, rfl, rfl⟩) (Nat.le_refl _) (Nat.le_refl _), Or.inr (Or.inl ⟨rfl, rfl, rfl, rfl, Nat.le_refl _, b2, (bCL (Lv d), nC, bML (Lv d), nM2, m, 1 + sumT (lsL (Lv d))), ?_, rfl, rfl⟩)⟩⟩
  obtain ⟨⟨hh, g1'⟩, g2'⟩ := f2
  exact ⟨⟨hh, g1'.mv (Nat.le_refl _) (fun _ _ _ _ _ => rfl) (fun _ _ _ => rfl) (fun _ _ _ _ _ => rfl) (fun _ _ _ _ => rfl)⟩, g2'⟩
theorem fin_level {n : Nat} (hn : 100000 ≤ n) {D : HD} {Lv : Nat → LD} {d NC NR nC nM mo : Nat} {sC sM : StT} (h : PRE D Lv d NC NR nC nM mo sC sM) : OUT n D Lv d NC NR nC nM sC sM ((f_X5_variablesIn n sC (nI d)).bind fun q87 => ((f_X4_add n q87.2 (nI d) q87.1).bind fun q90 => (some ((0 : Int32), (uF q90.2 24 q90.1))))) (f_X12_needs_36 n sM (nI d) (nI (zz (Lv d).1))) := by
  have hS := h.1
  have hRR := h.2.2.1
  have hd := h.2.2.2.2.2.2.1
  have hnM := h.2.2.2.2.2.2.2.2.2.2
  have hw := hS.1.2.2.1
  have hzM := hRR.2.1.1
  unfold f_X12_needs_36
  rw [inB_nI (show d < 201 by omega) (by omega), nI_cl (show d < 2 ^ 31 by omega), hzM]
  simp only [if_true]
  rcases h.2.2.2.1.2.2.2.2.2 with ⟨eL, _, _, f28⟩ | ⟨l, k, w, b1, b2, b3, b4, b5, b6, b7, b8, b9, b10⟩
  · rw [f28, if_neg (show ¬ (0 : Int32) ≤ -1 by decide)]
    obtain ⟨s1, w1, w2, w3, w4, w5, w6, w7, w8, w9, w10⟩ := newW (n := n) hn hS.1.2.1 hw hRR.2.1 (by omega) (fun i hi => (hRR.2.2.2.2.1 i hi).1) hS.2.2.2.2.1 hnM
    rw [w1, Option.bind_some]
    simp only []
    unfold f_X12_needs_66
    rw [inB_nI (show d < 201 by omega) (by omega), if_pos rfl, nI_cl (show d < 2 ^ 31 by omega)]
    have q28 : (uA s1 28 (nI d) (nI nM)).2.1 28 d = nI nM := by simp only [uA_21, if_true, upd_j, nI_cl (show d < 2 ^ 31 by omega)]
    have q29 : ∀ j, j ≠ 28 → (uA s1 28 (nI d) (nI nM)).2.1 j = s1.2.1 j := fun j hj => by simp only [uA_21]; rw [if_neg hj]
    rw [q28]
    refine fin_out (nM2 := nM + 1) hn h w2 w3 (fun j hj => by rw [q29 j (by omega)]; exact w4 j (by omega)) (fun i hi => by simp only [uA_21, if_true, upd_j, nI_cl (show d < 2 ^ 31 by omega), if_neg hi]; rw [w4 28 (by decide)]) (fun j i x y z => by rw [q29 j (by omega)]; exact w5 j i x y (by omega)) w10 (Nat.le_succ _) (by unfold em; rw [eL]; exact Nat.le_refl _) (by omega) (Or.inl ⟨eL, rfl, Nat.lt_succ_self _, by rw [q29 29 (by decide)]; exact w6, by rw [q29 32 (by decide)]; exact w9, by rw [q29 31 (by decide)]; exact w8⟩)
  · have hnm := h.2.2.2.2.2.1
    rw [b8, if_pos (show (0 : Int32) ≤ nI w from nI_nn (by omega))]
    unfold f_X12_needs_66
    rw [inB_nI (show d < 201 by omega) (by omega), if_pos rfl, nI_cl (show d < 2 ^ 31 by omega), b8]
    exact fin_out (nM2 := nM) hn h hS.2.2.2.2.1 (fun _ _ => rfl) (fun _ _ => rfl) (fun _ _ => rfl) (fun _ _ _ _ _ => rfl) rfl (Nat.le_refl _) (Nat.le_add_right _ _) (by omega) (Or.inr ⟨by rw [b1]; exact List.append_ne_nil_of_right_ne_nil _ (by simp), b8, by omega⟩)
/-- what is tried next, of LEFT that needs a premise of its own -/
theorem rule_needs {n : Nat} (hn : 100000 ≤ n) {D : HD} {Lv : Nat → LD} {d NC NR nC nM mo : Nat} {sC sM : StT} (h : PRE D Lv d NC NR nC nM mo sC sM) : ∀ (k i fu fu' : Nat), i + k = zz (Lv d).1 → k < fu → k < fu' → OUT n D Lv d NC NR nC nM sC sM (f_X5_tryNested_6 n fu sC (nI d) (nI i)) (f_X12_needs_2 n fu' sM (nI d) (nI i)) := by
  have hS := h.1
  have hRR := h.2.2.1
  have hd := h.2.2.2.2.2.2.1
  have hw := hS.1.2.2.1
  have hl := hw.2.1
  have hz := hRR.1.2.1
  have hzM := hRR.2.1.1
  intro k
  induction k with
  | zero =>
    intro i fu fu' hi h1 h2
    obtain ⟨fu, rfl⟩ := Nat.exists_eq_succ_of_ne_zero (show fu ≠ 0 by omega)
    obtain ⟨fu', rfl⟩ := Nat.exists_eq_succ_of_ne_zero (show fu' ≠ 0 by omega)
    have hi : i = zz (Lv d).1 := by omega
    rw [hi]
    unfold f_X5_tryNested_6 f_X12_needs_2
    rw [sizeC hRR.1 (by omega), Option.bind_some, inB_nI (show d < 201 by omega) (by omega), if_pos rfl, nI_cl (show d < 2 ^ 31 by omega), hzM]
    simp only []
    rw [if_pos (Int32.le_refl _), if_pos (Int32.le_refl _)]
    exact fin_level hn h
  | succ k ih =>
    intro i fu fu' hi h1 h2
    obtain ⟨fu, rfl⟩ := Nat.exists_eq_succ_of_ne_zero (show fu ≠ 0 by omega)
    obtain ⟨fu', rfl⟩ := Nat.exists_eq_succ_of_ne_zero (show fu' ≠ 0 by omega)
    have hiz : i < zz (Lv d).1 := by omega
    have hlt : ¬ nI (zz (Lv d).1) ≤ nI i := fun e => by have := (nI_leI (by omega) (by omega)).mp e; omega
    have hf := (hRR.2.2.2.2.1 i hiz).1
    have hkb := hw.bd hf
    have hr := hRR.2.1.2.2.2.2 i hiz
    have hm := hS.1.2.1.2 _ hf
    have ih' := ih (i + 1) fu fu' (by omega) (by omega) (by omega)
    unfold f_X5_tryNested_6 f_X12_needs_2
    rw [sizeC hRR.1 (by omega), Option.bind_some, inB_nI (show d < 201 by omega) (by omega), if_pos rfl, nI_cl (show d < 2 ^ 31 by omega), hzM]
    simp only []
    rw [if_neg hlt, if_neg hlt, (fAtC hRR.1 (by omega) hiz).1, Option.bind_some]
    simp only []
    rw [n60b, inB_nI (show 60 * d + i < 12060 by omega) (by omega), if_pos rfl, nI_cl (show 60 * d + i < 2 ^ 31 by omega), hr.1, nI_1]
    have hfst := firstOfF0 (n := n) hS.1.1 hf
    rw [hfst, Option.bind_some]
    simp only []
    rw [kindOfF0 hS.1.1 hf, Option.bind_some]
    simp only []
    unfold f_X12_isNeeding
    rw [inB_nI (show fmR (Lv d).1 i < 4200 by omega) (by omega), if_pos rfl, nI_cl (show fmR (Lv d).1 i < 2 ^ 31 by omega), hm.1]
    by_cases c5 : D.1.2.1 (fmR (Lv d).1 i) = 5
    · have hlo := hw.lo hf (by omega)
      have hp : D.1.2.2.1 (fmR (Lv d).1 i) < D.1.1 := by omega
      have hpb := hw.bd hp
      rw [c5, if_pos (show nI 5 = (5 : Int32) by decide), if_pos (show nI 5 = (5 : Int32) by decide), if_pos rfl, hm.2.1, inB_nI (show D.1.2.2.1 (fmR (Lv d).1 i) < 4200 by omega) (by omega), if_pos rfl, nI_cl (show D.1.2.2.1 (fmR (Lv d).1 i) < 2 ^ 31 by omega), (hS.1.2.1.2 _ hp).1, kindOfF0 hS.1.1 hp, Option.bind_some]
      simp only []
      by_cases c55 : D.1.2.1 (D.1.2.2.1 (fmR (Lv d).1 i)) = 5
      · rw [c55, if_pos (show nI 5 = (5 : Int32) by decide), if_pos (show nI 5 = (5 : Int32) by decide), Option.bind_some, bind_eta]
        simp only []
        rw [if_neg (show ¬ (1 : Int32) = 0 by decide)]
        exact rule_nested hn h hiz c5 c55
      · have hk : ¬ nI (D.1.2.1 (D.1.2.2.1 (fmR (Lv d).1 i))) = (5 : Int32) := fun e => c55 (nI_inj (b := 5) (by omega) (by omega) e)
        rw [if_neg hk, if_neg hk, Option.bind_some]
        simp only [if_true]
        exact ih'
    · have hk : ¬ nI (D.1.2.1 (fmR (Lv d).1 i)) = (5 : Int32) := fun e => c5 (nI_inj (b := 5) (by omega) (by omega) e)
      rw [if_neg hk, if_neg hk, Option.bind_some]
      simp only [if_true]
      exact ih'
