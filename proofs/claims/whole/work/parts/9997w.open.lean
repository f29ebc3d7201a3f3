/-! ===== a level's first turn ===== -/
theorem rule_reduce {n : Nat} (hn : 100000 ≤ n) {D : HD} {Lv : Nat → LD} {d NC NR nC nM mo i : Nat} {sC sM : StT} (h : PRE D Lv d NC NR nC nM mo sC sM) (hi : i < zz (Lv d).1) (hg : isGo D.1 (fmR (Lv d).1) (zz (Lv d).1) (fmR (Lv d).1 i) = true) : OUT n D Lv d NC NR nC nM sC sM (f_X5_reduce n sC (nI d) (nI i)) (f_X12_going n sM (nI d) (nI i)) := by
  have hw := h.1.1.2.2.1
  have hf := (h.2.2.1.2.2.2.2.1 i hi).1
  unfold isGo at hg
  by_cases c5 : D.1.2.1 (fmR (Lv d).1 i) = 5
  · rw [if_pos c5] at hg
    have hlo := hw.lo hf (by omega)
    have hb := hw.bd (show D.1.2.2.1 (fmR (Lv d).1 i) < D.1.1 by omega)
    by_cases c2 : D.1.2.1 (D.1.2.2.1 (fmR (Lv d).1 i)) = 2
    · rw [if_pos c2] at hg
      cases e : pix (fmR (Lv d).1) (D.1.2.2.1 (fmR (Lv d).1 i)) (zz (Lv d).1) with
      | none => rw [e] at hg; cases hg
      | some j => exact rule_lead012 hn h hi c5 (Or.inr (Or.inr ⟨c2, j, e⟩))
    · rw [if_neg c2] at hg
      have h5 := of_decide_eq_true hg
      rcases (show D.1.2.1 (D.1.2.2.1 (fmR (Lv d).1 i)) = 0 ∨ D.1.2.1 (D.1.2.2.1 (fmR (Lv d).1 i)) = 1 ∨ D.1.2.1 (D.1.2.2.1 (fmR (Lv d).1 i)) = 3 ∨ D.1.2.1 (D.1.2.2.1 (fmR (Lv d).1 i)) = 4 by omega) with k | k | k | k
      · exact rule_lead012 hn h hi c5 (Or.inl k)
      · exact rule_lead012 hn h hi c5 (Or.inr (Or.inl k))
      · exact rule_lead3 hn h hi c5 k
      · exact rule_lead4 hn h hi c5 k
  · rw [if_neg c5] at hg
    rcases of_decide_eq_true hg with k | k | k
    · exact rule_true hn h hi k
    · exact rule_both hn h hi k
    · exact rule_either hn h hi k
theorem first2 {n : Nat} (hn : 100000 ≤ n) {D : HD} {Lv : Nat → LD} {d NC NR nC nM mo : Nat} {sC sM : StT} {x2 x4 : Int32} (h : PRE D Lv d NC NR nC nM mo sC sM) : ∀ (k i fu fu' : Nat), i + k = zz (Lv d).1 → k < fu → k < fu' →
    (∃ j, j < zz (Lv d).1 ∧ isGo D.1 (fmR (Lv d).1) (zz (Lv d).1) (fmR (Lv d).1 j) = true ∧ f_X5_firstReducible_8 n fu sC (nI d) (msk D.1 (fmR (Lv d).1) (zz (Lv d).1)) (nI i) = some (nI j, sC) ∧ f_X12_opened_201 n fu' sM (nI d) x2 (nI i) x4 = f_X12_opened_226 n sM (nI d) x2 (nI j) x4)
    ∨ (f_X5_firstReducible_8 n fu sC (nI d) (msk D.1 (fmR (Lv d).1) (zz (Lv d).1)) (nI i) = some (-1, sC) ∧ f_X12_opened_201 n fu' sM (nI d) x2 (nI i) x4 = f_X12_opened_226 n sM (nI d) x2 (nI (zz (Lv d).1)) x4) := by
  have hS := h.1
  have hRR := h.2.2.1
  have hd := h.2.2.2.2.2.2.1
  have hw := hS.1.2.2.1
  have hz := hRR.1.2.1
  have hzM := hRR.2.1.1
  have hb : ∀ i, i < zz (Lv d).1 → fmR (Lv d).1 i < D.1.1 := fun i hi => (hRR.2.2.2.2.1 i hi).1
  intro k
  induction k with
  | zero =>
    intro i fu fu' hi h1 h2
    obtain ⟨fu, rfl⟩ := Nat.exists_eq_succ_of_ne_zero (show fu ≠ 0 by omega)
    obtain ⟨fu', rfl⟩ := Nat.exists_eq_succ_of_ne_zero (show fu' ≠ 0 by omega)
    have hi : i = zz (Lv d).1 := by omega
    rw [hi]
    right
    unfold f_X5_firstReducible_8 f_X12_opened_201
    rw [sizeC hRR.1 (by omega), Option.bind_some, inB_nI (show d < 201 by omega) (by omega), if_pos rfl, nI_cl (show d < 2 ^ 31 by omega), hzM]
    simp only []
    rw [if_pos (Int32.le_refl _), if_pos (Int32.le_refl _)]
    exact ⟨rfl, rfl⟩
  | succ k ih =>
    intro i fu fu' hi h1 h2
    obtain ⟨fu, rfl⟩ := Nat.exists_eq_succ_of_ne_zero (show fu ≠ 0 by omega)
    obtain ⟨fu', rfl⟩ := Nat.exists_eq_succ_of_ne_zero (show fu' ≠ 0 by omega)
    have hiz : i < zz (Lv d).1 := by omega
    have hlt : ¬ nI (zz (Lv d).1) ≤ nI i := fun e => by have := (nI_leI (by omega) (by omega)).mp e; omega
    have ih' := ih (i + 1) fu fu' (by omega) (by omega) (by omega)
    unfold f_X5_firstReducible_8 f_X12_opened_201
    rw [sizeC hRR.1 (by omega), Option.bind_some, inB_nI (show d < 201 by omega) (by omega), if_pos rfl, nI_cl (show d < 2 ^ 31 by omega), hzM]
    simp only []
    rw [if_neg hlt, if_neg hlt, (fAtC hRR.1 (by omega) hiz).1, Option.bind_some]
    simp only []
    rw [reduC hS.1.1 hw hb (hb i hiz), Option.bind_some, goingM hn hS.1.2.1 hw hRR.2.1 (by omega) hb hiz, Option.bind_some, nI_1]
    simp only []
    cases e : isGo D.1 (fmR (Lv d).1) (zz (Lv d).1) (fmR (Lv d).1 i) with
    | true =>
      left
      rw [show mI true = (1 : Int32) from rfl, if_neg (show ¬ (1 : Int32) = 0 by decide), if_neg (show ¬ (1 : Int32) = 0 by decide)]
      exact ⟨i, hiz, e, rfl, rfl⟩
    | false =>
      rw [show mI false = (0 : Int32) from rfl, if_pos rfl, if_pos rfl]
      exact ih'
/-- what the class's begin does once the turn is counted -/
def openC (n : Nat) (st : StT) (x1 : Int32) : Option (Int32 × StT) := (f_X6_goalOf n st x1).bind fun q65 => ((f_X6_indexOf n q65.2 x1 q65.1).bind fun q75 => (if q75.1 < 0 then ((f_X6_indexOf n q75.2 x1 (0 : Int32)).bind fun q103 => (if q103.1 < 0 then (if q65.1 = (1 : Int32) then ((f_X7_unit_T1 n q103.2).bind fun q144 => ((f_X5_provedBy n q144.2 q144.1).bind fun q147 => (some (q147.1, q147.2)))) else ((f_X1_kindOf_F0 n q103.2 q65.1).bind fun q156 => (if q156.1 = (5 : Int32) then ((f_X5_beginBody n q156.2 x1 q65.1).bind fun q170 => (some (q170.1, q170.2))) else (if q156.1 = (3 : Int32) then ((f_X1_firstOf_F0 n q156.2 q65.1).bind fun q191 => ((f_X6_follow n q191.2 x1 (-1 : Int32) q191.1).bind fun q194 => ((f_X5_waitFor n q194 x1 (2 : Int32)).bind fun q200 => (some (q200.1, q200.2))))) else ((f_X5_firstReducible n q156.2 x1).bind fun q206 => (if q206.1 < 0 then (if q156.1 = (4 : Int32) then ((f_X1_firstOf_F0 n q206.2 q65.1).bind fun q238 => ((f_X6_follow n q238.2 x1 (-1 : Int32) q238.1).bind fun q241 => ((f_X5_waitFor n q241 x1 (6 : Int32)).bind fun q248 => (some (q248.1, q248.2))))) else ((f_X5_tryNested n q206.2 x1 (0 : Int32)).bind fun q255 => (some (q255.1, q255.2)))) else ((f_X5_reduce n q206.2 x1 q206.1).bind fun q217 => (some (q217.1, q217.2))))))))) else ((f_X6_termAt n q103.2 x1 q103.1).bind fun q124 => ((f_X7_one_T1 n q124.2 (88 : Int32) q124.1).bind fun q127 => ((f_X5_provedBy n q127.2 q127.1).bind fun q130 => (some (q130.1, q130.2))))))) else ((f_X6_termAt n q75.2 x1 q75.1).bind fun q90 => ((f_X5_provedBy n q90.2 q90.1).bind fun q93 => (some (q93.1, q93.2))))))
theorem rule_open {n : Nat} (hn : 100000 ≤ n) {D : HD} {Lv : Nat → LD} {d NC NR nC nM mo : Nat} {sC sM : StT} (h : PRE D Lv d NC NR nC nM mo sC sM) (hL : lsL (Lv d) = []) : OUT n D Lv d NC NR nC nM sC sM (openC n sC (nI d)) (f_X12_opened n sM (nI d)) := by
  have hS := h.1
  have hRR := h.2.2.1
  have hd := h.2.2.2.2.2.2.1
  have hNC := h.2.2.2.2.2.2.2.1
  have hNR := h.2.2.2.2.2.2.2.2.1
  have hal := hRR.2.2.2.1
  have hw := hS.1.2.2.1
  have hl := hw.2.1
  have hz := hRR.1.2.1
  have hgl := hRR.2.2.1
  have hgb := hw.bd hgl
  have hb : ∀ i, i < zz (Lv d).1 → fmR (Lv d).1 i < 100000 := fun i hi => by have := (hRR.2.2.2.2.1 i hi).1; omega
  have hgM := hRR.2.1.2.2.1
  have haM := hRR.2.1.2.2.2.1
  have hmg := hS.1.2.1.2 _ hgl
  have k01 := kind01 hw hgl
  unfold openC f_X12_opened
  rw [goalC hRR.1 (by omega), Option.bind_some, inB_nI (show d < 201 by omega) (by omega), nI_cl (show d < 2 ^ 31 by omega), hgM, haM]
  simp only [if_true]
  rw [ixC hn hRR.1 (by omega) hb (by omega), ixM hn hRR.2.1 (by omega) hb (by omega), Option.bind_some, Option.bind_some]
  simp only []
  cases e1 : pix (fmR (Lv d).1) (gR (Lv d).1) (zz (Lv d).1) with
  | some j =>
    have hj := pix_some e1
    obtain ⟨_, _, htc, _, _⟩ := hRR.2.2.2.2.1 j hj.1
    obtain ⟨r, m3, NR', t1, t2, t3, t4, t5, t6, t7⟩ := termOfM (n := n) hRR (by omega) hj.1 hS.2.2.1 (by omega)
    have hng : ¬ oI (some j) < (0 : Int32) := nI_nneg (by omega)
    rw [if_neg hng, if_neg hng, show oI (some j) = nI j from rfl, (fAtC hRR.1 (by omega) hj.1).2, Option.bind_some, t1, Option.bind_some]
    unfold f_X5_provedBy f_X12_proved
    simp only [Option.bind_some]
    exact out_proved h (GC.rf _ _) t6 hS.2.1 t5 (Nat.le_refl _) (Nat.le_succ _) t2 (by omega) htc t4 t7
  | none =>
    rw [if_pos (show oI none < (0 : Int32) by decide), if_pos (show oI none < (0 : Int32) by decide), show (0 : Int32) = nI 0 from rfl, ixC hn hRR.1 (by omega) hb (by omega), ixM hn hRR.2.1 (by omega) hb (by omega), Option.bind_some, Option.bind_some]
    simp only []
    cases e0 : pix (fmR (Lv d).1) 0 (zz (Lv d).1) with
    | some j =>
      have hj := pix_some e0
      obtain ⟨_, _, htc, _, _⟩ := hRR.2.2.2.2.1 j hj.1
      obtain ⟨r, m3, NR', t1, t2, t3, t4, t5, t6, t7⟩ := termOfM (n := n) hRR (by omega) hj.1 hS.2.2.1 (by omega)
      have hng : ¬ oI (some j) < nI 0 := nI_nneg (by omega)
      obtain ⟨s2, v2, c2, w2, k2⟩ := aT1_ex sC (N := NC) (by omega) 88 (nI (tcR (Lv d).1 j)) 0 0 (-1)
      obtain ⟨m4, v4, g4, r4, i4⟩ := tM_ex m3 (R := NR') (by omega) 88 0 (nI r) (-1) (-1)
      rw [if_neg hng, if_neg hng, show oI (some j) = nI j from rfl, (fAtC hRR.1 (by omega) hj.1).2, Option.bind_some, t1, Option.bind_some]
      simp only []
      rw [oneC hS.2.1 (by omega), v2, Option.bind_some, show nI 0 = (0 : Int32) from rfl, termM t5 (by omega), v4, Option.bind_some]
      unfold f_X5_provedBy f_X12_proved
      simp only [Option.bind_some]
      refine out_proved h c2 (t6.tr g4 t2) k2 i4 (Nat.le_succ _) (Nat.le_refl _) (by omega) (by omega) (Nat.lt_succ_self NC) (Nat.lt_succ_self NR') (TTx.one (k := 88) (by omega) (by omega) (by omega) (by decide) r4.1 w2.1 htc w2.2.1 t4 r4.2.2.1 r4.2.2.2.1 (t7.gr (Nat.le_refl _) (fun _ _ => rfl) c2 g4 htc t4))
    | none =>
      rw [show nI 0 = (0 : Int32) from rfl, if_pos (show oI none < (0 : Int32) by decide), if_pos (show oI none < (0 : Int32) by decide), hgM]
      by_cases c1 : gR (Lv d).1 = 1
      · obtain ⟨s2, v2, c2, w2, k2⟩ := aT1_ex sC (N := NC) (by omega) 84 0 0 0 (-1)
        obtain ⟨m4, v4, g4, r4, i4⟩ := tM_ex sM (R := NR) (by omega) 84 0 (-1) (-1) (-1)
        rw [c1, if_pos (show nI 1 = (1 : Int32) by decide), if_pos (show nI 1 = (1 : Int32) by decide), unitC hS.2.1 (by omega), v2, Option.bind_some, termM hS.2.2.1 (by omega), v4, Option.bind_some]
        unfold f_X5_provedBy f_X12_proved
        simp only [Option.bind_some]
        exact out_proved h c2 g4 k2 i4 (Nat.le_succ _) (Nat.le_refl _) (Nat.le_succ _) (by omega) (Nat.lt_succ_self NC) (Nat.lt_succ_self NR) (TTx.unit (by omega) (by omega) (by omega) r4.1 w2.1)
      · have hn1 : ¬ nI (gR (Lv d).1) = (1 : Int32) := fun e => c1 (nI_inj (b := 1) (by omega) (by omega) e)
        rw [if_neg hn1, if_neg hn1, inB_nI (show gR (Lv d).1 < 4200 by omega) (by omega), nI_cl (show gR (Lv d).1 < 2 ^ 31 by omega), hmg.1, hmg.2.1, hmg.2.2]
        simp only [if_true]
        rw [kindOfF0 hS.1.1 hgl, Option.bind_some]
        simp only [bind_eta]
        by_cases c5 : D.1.2.1 (gR (Lv d).1) = 5
        · rw [c5, if_pos (show nI 5 = (5 : Int32) by decide), if_pos (show nI 5 = (5 : Int32) by decide)]
          have rb := rule_body hn h c5
          rw [nI_1, nI_1]
          obtain ⟨m2, d1, d2, d3, d4⟩ := withinM (n := n) hn (g' := D.1.2.2.2 (gR (Lv d).1)) (ar' := aR (Lv d).1 + 1) hRR.2.1 (by omega) (no_w hz)
          have x1 : (uA m2 25 (nI d) (2 : Int32)).2.1 1 (gR (Lv d).1) = nI (D.1.2.2.1 (gR (Lv d).1)) := by
            simp only [uA_21, if_neg (show ¬ (1 : Nat) = 25 by decide)]; rw [d2.2.1 1 (by decide)]; exact hmg.2.1
          rw [d1, Option.bind_some] at rb ⊢
          rw [x1]
          exact rb
        · have n5 : ¬ nI (D.1.2.1 (gR (Lv d).1)) = (5 : Int32) := fun e => c5 (nI_inj (b := 5) (by omega) (by omega) e)
          rw [if_neg n5, if_neg n5]
          by_cases c3 : D.1.2.1 (gR (Lv d).1) = 3
          · have hlo := hw.lo hgl (by omega)
            obtain ⟨s1, m1, y1, y2, y3⟩ := lay_same hn (q := (2, 0, 0, 0, 0)) (g' := D.1.2.2.1 (gR (Lv d).1)) h (show 2 ∈ [2, 3, 6, 7] by decide) (by omega) (fun _ => c3) (fun x => absurd (show 2 ∈ [6, 7] from x) (by decide)) (fun x => absurd (show (2 : Nat) = 3 from x) (by decide)) (fun x => absurd (show (2 : Nat) = 6 from x) (by decide)) (fun x => absurd (show (2 : Nat) = 7 from x) (by decide))
            rw [c3, if_pos (show nI 3 = (3 : Int32) by decide), if_pos (show nI 3 = (3 : Int32) by decide), firstOfF0 hS.1.1 hgl, Option.bind_some]
            simp only []
            rw [y1, Option.bind_some, y2, Option.bind_some, (waitC hd 2).1]
            exact y3
          · have n3 : ¬ nI (D.1.2.1 (gR (Lv d).1)) = (3 : Int32) := fun e => c3 (nI_inj (b := 3) (by omega) (by omega) e)
            rw [if_neg n3, if_neg n3]
            unfold f_X5_firstReducible
            rw [varsC hn hS.1.1 hw hRR.1 (by omega) (fun i hi => (hRR.2.2.2.2.1 i hi).1), Option.bind_some]
            simp only []
            rcases first2 hn (x2 := nI (aR (Lv d).1)) (x4 := nI (gR (Lv d).1)) h (zz (Lv d).1) 0 n n (by omega) (by omega) (by omega) with ⟨j, hj, hgo, z1, z2⟩ | ⟨z1, z2⟩
            · rw [show (0 : Int32) = nI 0 from rfl, z1, z2, Option.bind_some]
              simp only []
              unfold f_X12_opened_226
              rw [if_neg (show ¬ nI j < nI 0 from nI_nneg (by omega)), inB_nI (show d < 201 by omega) (by omega), if_pos rfl, nI_cl (show d < 2 ^ 31 by omega), hRR.2.1.1, if_neg (show ¬ nI (zz (Lv d).1) ≤ nI j from fun e => by have := (nI_leI (by omega) (by omega)).mp e; omega), bind_eta]
              exact rule_reduce hn h hj hgo
            · rw [show (0 : Int32) = nI 0 from rfl, z1, z2, Option.bind_some]
              simp only []
              unfold f_X12_opened_226
              rw [if_pos (show (-1 : Int32) < nI 0 by decide), inB_nI (show d < 201 by omega) (by omega), if_pos rfl, nI_cl (show d < 2 ^ 31 by omega), hRR.2.1.1, if_pos (Int32.le_refl _), inB_nI (show gR (Lv d).1 < 4200 by omega) (by omega), nI_cl (show gR (Lv d).1 < 2 ^ 31 by omega), hmg.1, hmg.2.1]
              simp only [if_true, bind_eta]
              by_cases c4 : D.1.2.1 (gR (Lv d).1) = 4
              · have hlo := hw.lo hgl (by omega)
                obtain ⟨s1, m1, y1, y2, y3⟩ := lay_same hn (q := (6, 0, 0, 0, 0)) (g' := D.1.2.2.1 (gR (Lv d).1)) h (show 6 ∈ [2, 3, 6, 7] by decide) (by omega) (fun x => absurd (show 6 ∈ [2, 3] from x) (by decide)) (fun _ => c4) (fun x => absurd (show (6 : Nat) = 3 from x) (by decide)) (fun _ => hL) (fun x => absurd (show (6 : Nat) = 7 from x) (by decide))
                rw [c4, if_pos (show nI 4 = (4 : Int32) by decide), if_pos (show nI 4 = (4 : Int32) by decide), firstOfF0 hS.1.1 hgl, Option.bind_some]
                simp only []
                rw [y1, Option.bind_some, y2, Option.bind_some, (waitC hd 6).1]
                exact y3
              · have n4 : ¬ nI (D.1.2.1 (gR (Lv d).1)) = (4 : Int32) := fun e => c4 (nI_inj (b := 4) (by omega) (by omega) e)
                rw [if_neg n4, if_neg n4]
                unfold f_X5_tryNested f_X12_needs
                rw [if_neg (show ¬ nI 0 < (0 : Int32) by decide)]
                exact rule_needs hn h (zz (Lv d).1) 0 n n (by omega) (by omega) (by omega)
