/-! ===== one of LEFT is reduced: both ===== -/
theorem oneC {n : Nat} {s : StT} {N : Nat} (h : s.1 16 = nI N) (hN : N < 30027) (k a : Int32) : f_X7_one_T1 n s k a = some (nI N, aT1 s N k a 0 0 (-1)) := by
  unfold f_X7_one_T1; rw [addT1 h hN, Option.bind_some]
theorem twoC {n : Nat} {s : StT} {N : Nat} (h : s.1 16 = nI N) (hN : N < 30027) (k a b : Int32) : f_X7_two_T1 n s k a b = some (nI N, aT1 s N k a b 0 (-1)) := by
  unfold f_X7_two_T1; rw [addT1 h hN, Option.bind_some]
theorem lamC {n : Nat} {s : StT} {N : Nat} (h : s.1 16 = nI N) (hN : N < 30027) (f t b : Int32) : f_X7_lambda_T1 n s f t b = some (nI N, aT1 s N 76 t f 0 b) := by
  unfold f_X7_lambda_T1; rw [addT1 h hN, Option.bind_some]
theorem hypC {n : Nat} {s : StT} {N : Nat} (h : s.1 16 = nI N) (hN : N < 30027) (x : Int32) : f_X7_hypothesis_T1 n s x = some (nI N, aT1 s N 104 x 0 0 (-1)) := by
  unfold f_X7_hypothesis_T1; rw [addT1 h hN, Option.bind_some]
theorem unitC {n : Nat} {s : StT} {N : Nat} (h : s.1 16 = nI N) (hN : N < 30027) : f_X7_unit_T1 n s = some (nI N, aT1 s N 84 0 0 0 (-1)) := by
  unfold f_X7_unit_T1; rw [addT1 h hN, Option.bind_some]
theorem hypM {n : Nat} {s : StT} {R : Nat} (h : s.1 18 = nI R) (hR : R < 60000) (x : Int32) : f_X12_hypothesis n s x = some (nI R, tM s R 72 x (-1) (-1) (-1)) := by
  unfold f_X12_hypothesis; rw [termM h hR, Option.bind_some]
theorem rule_both {n : Nat} (hn : 100000 ≤ n) {D : HD} {Lv : Nat → LD} {d NC NR nC nM mo i : Nat} {sC sM : StT} (h : PRE D Lv d NC NR nC nM mo sC sM) (hi : i < zz (Lv d).1) (h3 : D.1.2.1 (fmR (Lv d).1 i) = 3) : OUT n D Lv d NC NR nC nM sC sM (f_X5_reduce n sC (nI d) (nI i)) (f_X12_going n sM (nI d) (nI i)) := by
  have hS := h.1
  have hRR := h.2.2.1
  have hd := h.2.2.2.2.2.2.1
  have hNC := h.2.2.2.2.2.2.2.1
  have hNR := h.2.2.2.2.2.2.2.2.1
  have ha := hRR.2.2.2.1
  obtain ⟨hf, _, htc, _, _⟩ := hRR.2.2.2.2.1 i hi
  have hw := hS.1.2.2.1
  have hlo := hw.lo hf (by omega)
  obtain ⟨s2, c1, c2, c3, c4, c5, ec⟩ := redC hn h hi
  obtain ⟨m2, d1, d2, d3, d4, d5, em⟩ := goM hn h hi (by omega)
  rw [ec, em]
  simp only [h3]
  rw [if_pos (show nI 3 = (3 : Int32) by decide), if_pos (show nI 3 = (3 : Int32) by decide)]
  -- the row
  have p0 := ((PRG.start (d := d) hS).lw c2 d2).mc 25 (by decide) (by omega) 1
  have hR1 := hRR.gr (Nat.lt_succ_self d) p0.2.2.1.1 p0.2.2.1.2 (Nat.le_refl _) (Nat.le_refl _) (Nat.le_refl _)
  have hR2 := hR1.next (S' := sR (Lv d).1) c4 (d4.keep (fun j x y => by simp only [uA_21]; rw [if_neg (by omega)])) hRR.2.2.1 (Or.inl rfl) (fun _ _ => rfl)
  have m25 : (uA m2 25 (nI d) 1).2.1 25 d = nI 1 := by simp only [uA_21, if_true, upd_j, nI_cl (show d < 2 ^ 31 by omega)]; rfl
  -- the term
  obtain ⟨r, m3, NR', t1, t2, t3, t4, t5, t6, t7⟩ := termOfM (n := n) hR1 (by omega) hi p0.2.2.2.2.2.2.1.2 (by omega)
  rw [firstOfF0 c5 hf, Option.bind_some, t1, Option.bind_some]
  simp only []
  rw [oneC p0.2.2.2.2.2.2.1.1 (by omega), Option.bind_some, termM t5 (by omega), Option.bind_some]
  simp only []
  have gc := aT1_fr (s := s2) (N := NC) (by omega) 70 (nI (tcR (Lv d).1 i)) 0 0 (-1)
  have rc := aT1_rows (s := s2) (N := NC) (by omega) 70 (nI (tcR (Lv d).1 i)) 0 0 (-1)
  have e16 : (aT1 s2 NC 70 (nI (tcR (Lv d).1 i)) 0 0 (-1)).1 16 = nI (NC + 1) := rfl
  generalize aT1 s2 NC 70 (nI (tcR (Lv d).1 i)) 0 0 (-1) = s3 at gc rc e16 ⊢
  have gm := tM_fr (s := m3) (R := NR') (by omega) 70 0 (nI r) (-1) (-1)
  have rm := tM_rows (s := m3) (R := NR') (by omega) 70 0 (nI r) (-1) (-1)
  have e18 : (tM m3 NR' 70 0 (nI r) (-1) (-1)).1 18 = nI (NR' + 1) := rfl
  generalize tM m3 NR' 70 0 (nI r) (-1) (-1) = m4 at gm rm e18 ⊢
  have p1 := ((p0.c1 gc e16 (by omega)).m1 t6 t5 t2).m1 gm e18 (by omega)
  have kM4 : KGM (d + 2) NR (uA m2 25 (nI d) 1) m4 := (t6.kg _).tr (gm.kg _) t2
  have hR3 := hR2.gr (Nat.lt_succ_self _) (gc.kg (d + 2)) kM4 (Nat.le_refl _) (Nat.le_succ NC) (show NR ≤ NR' + 1 by omega)
  have hin : TTx s3 m4 D.1.1 (tcR (Lv d).1 i) r (aR (Lv d).1) (sR (Lv d).1) := t7.gr (Nat.le_refl _) (fun _ _ => rfl) gc gm htc t4
  have ht : TTx s3 m4 D.1.1 NC NR' (aR (Lv d).1) (sR (Lv d).1) := TTx.one (k := 70) (by omega) (by omega) (by omega) (by decide) rm.1 rc.1 htc rc.2.1 t4 rm.2.2.1 rm.2.2.2.1 hin
  have f1 : m3.2.1 1 (fmR (Lv d).1 i) = nI (D.1.2.2.1 (fmR (Lv d).1 i)) := by
    rw [t6.2.1 1 (by decide)]; exact (d5.2 _ hf).2.1
  rw [f1]
  have e17 : s3.1 17 = nI mo := by rw [gc.1 17 (by decide), c3]; exact hS.2.2.2.2.2.1
  have e22 : m4.1 22 = nI mo := by rw [gm.1 22 (by decide), t6.1 22 (by decide)]; show m2.1 22 = _; rw [d3]; exact hS.2.2.2.2.2.2.1
  rcases PRG.come (Lv := Lv) hn p1 hd hR3 e17 e22 hS.2.2.2.2.2.2.2 (f := D.1.2.2.1 (fmR (Lv d).1 i)) (by omega) (Nat.le_refl _) (fun k h1 h2 => absurd h2 (Nat.not_lt.mpr h1)) (Nat.lt_succ_self NC) (Nat.lt_succ_self NR') ht with ⟨R2, s5, m5, mo2, q1, q2, q3, q4, q5, q6, q7, q8, q9, q10, q11, q12, q13⟩ | ⟨q1, q2, q3⟩
  · rw [q1, q2, Option.bind_some, Option.bind_some]
    simp only []
    rw [if_neg (by decide), if_neg (by decide), secondOfF0 q3.2.2.2.2.2.1.1 hf, Option.bind_some]
    simp only []
    rw [oneC q3.2.2.2.2.2.2.1.1 (by omega), Option.bind_some, termM q3.2.2.2.2.2.2.1.2 (by omega), Option.bind_some]
    simp only []
    have gc' := aT1_fr (s := s5) (N := NC + 1) (by omega) 83 (nI (tcR (Lv d).1 i)) 0 0 (-1)
    have rc' := aT1_rows (s := s5) (N := NC + 1) (by omega) 83 (nI (tcR (Lv d).1 i)) 0 0 (-1)
    have e16' : (aT1 s5 (NC + 1) 83 (nI (tcR (Lv d).1 i)) 0 0 (-1)).1 16 = nI (NC + 1 + 1) := rfl
    generalize aT1 s5 (NC + 1) 83 (nI (tcR (Lv d).1 i)) 0 0 (-1) = s6 at gc' rc' e16' ⊢
    have gm' := tM_fr (s := m5) (R := NR' + 1) (by omega) 83 0 (nI r) (-1) (-1)
    have rm' := tM_rows (s := m5) (R := NR' + 1) (by omega) 83 0 (nI r) (-1) (-1)
    have e18' : (tM m5 (NR' + 1) 83 0 (nI r) (-1) (-1)).1 18 = nI (NR' + 1 + 1) := rfl
    generalize tM m5 (NR' + 1) 83 0 (nI r) (-1) (-1) = m6 at gm' rm' e18' ⊢
    have p2 := (q3.c1 gc' e16' (by omega)).m1 gm' e18' (by omega)
    have hR4 := q4.gr (Nat.lt_succ_self _) (gc'.kg (d + 2)) (gm'.kg (d + 2)) (Nat.le_refl _) (Nat.le_succ (NC + 1)) (Nat.le_succ (NR' + 1))
    have hin' : TTx s6 m6 D.1.1 (tcR (Lv d).1 i) r (aR (Lv d).1) (sR (Lv d).1) := hin.kg (e := 0) (Nat.le_refl _) (fun _ _ => rfl) (((q9.kg (NC + 1)).lo (Nat.zero_le _)).tr (gc'.kg 0) (Nat.le_refl _)) (((q10.kg (NR' + 1)).lo (Nat.zero_le _)).tr (gm'.kg 0) (Nat.le_refl _)) (by omega) (by omega)
    have ht' : TTx s6 m6 D.1.1 (NC + 1) (NR' + 1) (aR (Lv d).1) (sR (Lv d).1) := TTx.one (k := 83) (by omega) (by omega) (by omega) (by decide) rm'.1 rc'.1 (by omega) rc'.2.1 (by omega) rm'.2.2.1 rm'.2.2.2.1 hin'
    have f2 : m5.2.1 2 (fmR (Lv d).1 i) = nI (D.1.2.2.2 (fmR (Lv d).1 i)) := (q3.2.2.2.2.2.1.2.1.2 _ hf).2.2
    rw [f2]
    rcases PRG.come (Lv := Lv) hn p2 hd hR4 (by rw [gc'.1 17 (by decide)]; exact q11) (by rw [gm'.1 22 (by decide)]; exact q12) q13 (f := D.1.2.2.2 (fmR (Lv d).1 i)) (by omega) (k := aR (Lv d).1) (by rw [q5]; exact Nat.le_refl _) (fun k h1 h2 => absurd h2 (by rw [q5]; exact Nat.not_lt.mpr h1)) (Nat.lt_succ_self (NC + 1)) (Nat.lt_succ_self (NR' + 1)) (by rw [q6]; exact ht') with ⟨R3, s7, m7, mo3, w1, w2, w3, w4, w5, w6, w7, w8, w9, w10, w11, w12, w13⟩ | ⟨w1, w2, w3⟩
    · rw [w1, w2, Option.bind_some, Option.bind_some]
      simp only []
      rw [if_neg (by decide), if_neg (by decide), (waitC hd 0).2.2, Option.bind_some]
      unfold f_X12_going_231
      rw [if_neg (by decide), bind_eta]
      refine same_fin (w := i) h w3 w11 w12 w13 (by omega) (by omega) ?_ w4 (Or.inr (by rw [h3]; decide)) (w5.trans q5) (fun k _ => by rw [w6, q6]) (Nat.le_trans q7 w7) (fun j hj => ?_)
      · rw [w10.2.1 25 (by decide), gm'.2.1 25 (by decide), q10.2.1 25 (by decide), gm.2.1 25 (by decide), t6.2.1 25 (by decide)]; exact m25
      · rw [w8 j (Nat.lt_of_lt_of_le hj q7)]; exact q8 j hj
    · rw [w1, w2, Option.bind_some, Option.bind_some]
      simp only [if_true]
      rw [(waitC hd 0).2.1, Option.bind_some]
      unfold f_X12_going_231
      rw [if_pos rfl]
      exact w3
  · rw [q1, q2, Option.bind_some, Option.bind_some]
    simp only [if_true]
    rw [(waitC hd 0).2.1, Option.bind_some]
    unfold f_X12_going_231
    rw [if_pos rfl]
    exact q3
