/-! ===== one of LEFT is reduced: what leads from both, from either ===== -/
theorem aT1_ex (s : StT) {N : Nat} (hN : N < 30027) (k a b c d : Int32) : ∃ s', aT1 s N k a b c d = s' ∧ GC N s s' ∧ (s'.2.1 16 N = k ∧ s'.2.1 17 N = a ∧ s'.2.1 18 N = b ∧ s'.2.1 19 N = c ∧ s'.2.1 20 N = d) ∧ s'.1 16 = nI (N + 1) := ⟨_, rfl, aT1_fr hN k a b c d, aT1_rows hN k a b c d, rfl⟩
theorem tM_ex (s : StT) {R : Nat} (hR : R < 60000) (k x a b c : Int32) : ∃ s', tM s R k x a b c = s' ∧ GM R s s' ∧ (s'.2.1 14 R = k ∧ s'.2.1 15 R = x ∧ s'.2.1 16 R = a ∧ s'.2.1 17 R = b ∧ s'.2.1 18 R = c) ∧ s'.1 18 = nI (R + 1) := ⟨_, rfl, tM_fr hR k x a b c, tM_rows hR k x a b c, rfl⟩
theorem TTx.in1 {sC sM : StT} {F c r0 r n N : Nat} {S S' : Nat → Nat} (h : TTx sC sM F c r0 n S) (hr : r < 60000) (hN : N < 1000) (hn : n ≤ N) (k1 : sM.2.1 14 r = 77) (k2 : sM.2.1 15 r = nI n) (k3 : sM.2.1 16 r = nI r0) (h1 : r0 < r) (hS : ∀ k, k < n → S' k = S k) (hB : ∀ k, n ≤ k → k < N → c < S' k) : TTx sC sM F c r N S' :=
  TTx.moved hr hN hn h1 k1 k2 k3 (fun k x y => Or.inl (hB k x y)) (h.gr (Nat.le_refl _) hS (GC.rf (c + 1) sC) (GM.rf (r0 + 1) sM) (Nat.lt_succ_self _) (Nat.lt_succ_self _))
theorem side2 {n : Nat} (hn : 100000 ≤ n) {D D1 : HD} {Lv : Nat → LD} {d NC NR nC nM N R mo1 : Nat} {sC sM s m : StT} {R' : RW} (hd : d < 200) (p : PRG D d NC NR nC nM sC sM D1 N R s m) (hN : N + 4 < 30027) (hR : R + 4 < 60000) (hrow : RR s m D1.1.1 N R (d + 1) R') (h17 : s.1 17 = nI mo1) (h22 : m.1 22 = nI mo1) (hmo : mo1 ≤ 60) {a b c r r0 k : Nat} (ha : a < D1.1.1) (hb : b < D1.1.1) (hc : c < N) (hr : r < R) (k1 : m.2.1 14 r = 77) (k2 : m.2.1 15 r = nI (aR R')) (k3 : m.2.1 16 r = nI r0) (k4 : r0 < r) (ht0 : TTx s m D1.1.1 c r0 (aR R') (sR R')) (hk : k ∈ [70, 83, 73, 74, 88]) :
    ∃ (o : Option Nat) (D2 : HD) (m2 m3 m4 m5 m6 m7 s' : StT) (ok : Bool), f_X5_comesSide n s (nI (d + 1)) (nI a) (nI b) (nI c) (nI k) = some (mI ok, s') ∧
      f_X12_formulaOf n m 5 (nI a) (nI b) = some (oI o, m2) ∧ f_X12_hypothesis n m2 (nI (aR R')) = some (nI R, m3) ∧ f_X12_term n m3 (nI k) 0 (nI R) (-1) (-1) = some (nI (R + 1), m4) ∧ f_X12_term n m4 65 0 (nI r) (nI (R + 1)) (-1) = some (nI (R + 2), m5) ∧ f_X12_term n m5 76 (nI a) (nI (R + 2)) (-1) (-1) = some (nI (R + 3), m6) ∧ f_X12_comes n m6 (nI (d + 1)) (oI o) (nI (R + 3)) (nI (aR R')) = some (mI ok, m7) ∧ MF m5 D2.1 ∧ Gd D1 D2 ∧
      ((ok = true ∧ ∃ R2 mo2, PRG D d NC NR nC nM sC sM D2 (N + 4) (R + 4) s' m7 ∧ RR s' m7 D2.1.1 (N + 4) (R + 4) (d + 1) R2 ∧ aR R2 = aR R' ∧ sR R2 = sR R' ∧ zz R' ≤ zz R2 ∧ (∀ i, i < zz R' → fmR R2 i = fmR R' i) ∧ KGC 0 N s s' ∧ KGM 0 R m m7 ∧ m7.2.1 25 = m.2.1 25 ∧ s'.1 17 = nI mo2 ∧ m7.1 22 = nI mo2 ∧ mo2 ≤ 60)
      ∨ (ok = false ∧ OUT n D Lv d NC NR nC nM sC sM (some (-7, s')) (some (3, m7)))) := by
  have hal := hrow.2.2.2.1
  obtain ⟨o, D2, s2, m2, j1, j2, p2, gd, jo, fc, fm⟩ := p.joinB hn ha hb
  have q16 := p2.2.2.2.2.2.2.1.1
  have q18 := p2.2.2.2.2.2.2.1.2
  -- the reference's terms
  obtain ⟨m3, t3, g3, r3, e3⟩ := tM_ex m2 (R := R) (by omega) 72 (nI (aR R')) (-1) (-1) (-1)
  obtain ⟨m4, t4, g4, r4, e4⟩ := tM_ex m3 (R := R + 1) (by omega) (nI k) 0 (nI R) (-1) (-1)
  obtain ⟨m5, t5, g5, r5, e5⟩ := tM_ex m4 (R := R + 2) (by omega) 65 0 (nI r) (nI (R + 1)) (-1)
  obtain ⟨m6, t6, g6, r6, e6⟩ := tM_ex m5 (R := R + 3) (by omega) 76 (nI a) (nI (R + 2)) (-1) (-1)
  have pM5 := ((p2.m1 g3 e3 (by omega)).m1 g4 e4 (by omega)).m1 g5 e5 (by omega)
  have pM := pM5.m1 g6 e6 (by omega)
  have x17 : s2.1 17 = nI mo1 := by rw [fc.1 17 (by decide)]; exact h17
  have x22 : m6.1 22 = nI mo1 := by rw [g6.1 22 (by decide), g5.1 22 (by decide), g4.1 22 (by decide), g3.1 22 (by decide), fm.1 22 (by decide)]; exact h22
  have y1 : f_X12_hypothesis n m2 (nI (aR R')) = some (nI R, m3) := by rw [hypM q18 (by omega), t3]
  have y2 : f_X12_term n m3 (nI k) 0 (nI R) (-1) (-1) = some (nI (R + 1), m4) := by rw [termM e3 (by omega), t4]
  have y3 : f_X12_term n m4 65 0 (nI r) (nI (R + 1)) (-1) = some (nI (R + 2), m5) := by rw [termM e4 (by omega), t5]
  have y4 : f_X12_term n m5 76 (nI a) (nI (R + 2)) (-1) (-1) = some (nI (R + 3), m6) := by rw [termM e5 (by omega), t6]
  cases o with
  | none =>
    refine ⟨none, D2, m2, m3, m4, m5, m6, _, s2, false, ?_, j2, y1, y2, y3, y4, comesM_neg, pM5.2.2.2.2.2.1.2.1, gd, Or.inr ⟨rfl, (pM.f24 (-7)).full x17 x22 rfl⟩⟩
    unfold f_X5_comesSide
    rw [j1, Option.bind_some]
    simp only []
    rw [if_neg (show ¬ (0 : Int32) ≤ oI none by decide)]
    rfl
  | some f =>
    have hf := jo f rfl
    have hF := p2.2.2.2.2.2.1.2.2.1.2.1
    obtain ⟨s3, v3, c3, w3, i3⟩ := aT1_ex s2 (N := N) (by omega) 104 0 0 0 (-1)
    obtain ⟨s4, v4, c4, w4, i4⟩ := aT1_ex s3 (N := N + 1) (by omega) (nI k) (nI N) 0 0 (-1)
    obtain ⟨s5, v5, c5, w5, i5⟩ := aT1_ex s4 (N := N + 2) (by omega) 65 (nI c) (nI (N + 1)) 0 (-1)
    obtain ⟨s6, v6, c6, w6, i6⟩ := aT1_ex s5 (N := N + 3) (by omega) 76 (nI (N + 2)) (nI a) 0 (nI N)
    have pE := (((pM.c1 c3 i3 (by omega)).c1 c4 i4 (by omega)).c1 c5 i5 (by omega)).c1 c6 i6 (by omega)
    have kC : ∀ e, KGC e N s s6 := fun e => ((((fc.kg e N).tr (c3.kg e) (Nat.le_refl _)).tr (c4.kg e) (Nat.le_succ _)).tr (c5.kg e) (by omega)).tr (c6.kg e) (by omega)
    have kM : ∀ e, KGM e R m m6 := fun e => ((((fm.kg e R).tr (g3.kg e) (Nat.le_refl _)).tr (g4.kg e) (Nat.le_succ _)).tr (g5.kg e) (by omega)).tr (g6.kg e) (by omega)
    have hrow2 : RR s6 m6 D2.1.1 (N + 4) (R + 4) (d + 1) R' := hrow.gr (Nat.lt_succ_self _) (kC _) (kM _) gd.1 (by omega) (by omega)
    have b0 : TTx s6 m6 D2.1.1 c r0 (aR R') (sR R') := ht0.kg (e := 0) gd.1 (fun _ _ => rfl) (kC 0) (kM 0) hc (by omega)
    have hSk : ∀ k, k < aR R' → updN (sR R') (aR R') N k = sR R' k := fun k hk => by unfold updN; rw [if_neg (by omega)]
    have b1 : TTx s6 m6 D2.1.1 c r (aR R' + 1) (updN (sR R') (aR R') N) := b0.in1 (by omega) (by omega) (Nat.le_succ _) (by rw [(kM 0).2.2 14 r (by decide) (by decide) hr]; exact k1) (by rw [(kM 0).2.2 15 r (by decide) (by decide) hr]; exact k2) (by rw [(kM 0).2.2 16 r (by decide) (by decide) hr]; exact k3) k4 hSk (fun k x y => by rw [show k = aR R' by omega]; unfold updN; rw [if_pos rfl]; omega)
    have N16 : s6.2.1 16 N = 104 := by rw [c6.2.2.1 16 N (by decide) (by decide) (by omega), c5.2.2.1 16 N (by decide) (by decide) (by omega), c4.2.2.1 16 N (by decide) (by decide) (by omega)]; exact w3.1
    have b2 : TTx s6 m6 D2.1.1 N R (aR R' + 1) (updN (sR R') (aR R') N) := TTx.hyp (k := aR R') (by omega) (by omega) (by omega) (by rw [g6.2.2.1 14 R (by decide) (by decide) (by omega), g5.2.2.1 14 R (by decide) (by decide) (by omega), g4.2.2.1 14 R (by decide) (by decide) (by omega)]; exact r3.1) N16 (Nat.lt_succ_self _) (by rw [g6.2.2.1 15 R (by decide) (by decide) (by omega), g5.2.2.1 15 R (by decide) (by decide) (by omega), g4.2.2.1 15 R (by decide) (by decide) (by omega)]; exact r3.2.1) (by unfold updN; rw [if_pos rfl])
    have b3 : TTx s6 m6 D2.1.1 (N + 1) (R + 1) (aR R' + 1) (updN (sR R') (aR R') N) := TTx.one (k := k) (by omega) (by omega) (by omega) hk (by rw [g6.2.2.1 14 (R + 1) (by decide) (by decide) (by omega), g5.2.2.1 14 (R + 1) (by decide) (by decide) (by omega)]; exact r4.1) (by rw [c6.2.2.1 16 (N + 1) (by decide) (by decide) (by omega), c5.2.2.1 16 (N + 1) (by decide) (by decide) (by omega)]; exact w4.1) (Nat.lt_succ_self _) (by rw [c6.2.2.1 17 (N + 1) (by decide) (by decide) (by omega), c5.2.2.1 17 (N + 1) (by decide) (by decide) (by omega)]; exact w4.2.1) (Nat.lt_succ_self _) (by rw [g6.2.2.1 16 (R + 1) (by decide) (by decide) (by omega), g5.2.2.1 16 (R + 1) (by decide) (by decide) (by omega)]; exact r4.2.2.1) (by rw [g6.2.2.1 17 (R + 1) (by decide) (by decide) (by omega), g5.2.2.1 17 (R + 1) (by decide) (by decide) (by omega)]; exact r4.2.2.2.1) b2
    have b4 : TTx s6 m6 D2.1.1 (N + 2) (R + 2) (aR R' + 1) (updN (sR R') (aR R') N) := TTx.two (k := 65) (by omega) (by omega) (by omega) (by decide) (by rw [g6.2.2.1 14 (R + 2) (by decide) (by decide) (by omega)]; exact r5.1) (by rw [c6.2.2.1 16 (N + 2) (by decide) (by decide) (by omega)]; exact w5.1) (by omega) (by rw [c6.2.2.1 17 (N + 2) (by decide) (by decide) (by omega)]; exact w5.2.1) (by omega) (by rw [g6.2.2.1 16 (R + 2) (by decide) (by decide) (by omega)]; exact r5.2.2.1) (by omega) (by rw [c6.2.2.1 18 (N + 2) (by decide) (by decide) (by omega)]; exact w5.2.2.1) (by omega) (by rw [g6.2.2.1 17 (R + 2) (by decide) (by decide) (by omega)]; exact r5.2.2.2.1) b1 b3
    have b5 : TTx s6 m6 D2.1.1 (N + 3) (R + 3) (aR R') (sR R') := TTx.lam (b := N) (by omega) (by omega) (by omega) r6.1 w6.1 (Nat.lt_of_lt_of_le ha gd.1) w6.2.2.1 r6.2.1 (Nat.lt_succ_self _) w6.2.1 (Nat.lt_succ_self _) r6.2.2.1 (Or.inl ⟨w6.2.2.2.2, by omega, N16, fun k hk => by have := (hrow.2.2.2.2.2 k hk).1; omega⟩) b4
    have z17 : s6.1 17 = nI mo1 := by rw [c6.1 17 (by decide), c5.1 17 (by decide), c4.1 17 (by decide), c3.1 17 (by decide)]; exact x17
    have eC : f_X5_comesSide n s (nI (d + 1)) (nI a) (nI b) (nI c) (nI k) = (f_X6_comes n s6 (nI (d + 1)) (nI f) (nI (N + 3))).bind fun q72 => (if isZ q72.1 = true then some (q72.1, q72.2) else none) := by
      unfold f_X5_comesSide
      rw [j1, Option.bind_some]
      simp only []
      rw [if_pos (show (0 : Int32) ≤ oI (some f) from nI_nn (by omega)), hypC q16 (by omega), Option.bind_some, v3]
      simp only []
      rw [oneC i3 (by omega), Option.bind_some, v4]
      simp only []
      rw [twoC i4 (by omega), Option.bind_some, v5]
      simp only []
      rw [lamC i5 (by omega), Option.bind_some, v6]
      rfl
    rcases PRG.come (Lv := Lv) hn pE hd hrow2 z17 x22 hmo hf (Nat.le_refl _) (fun k h1 h2 => absurd h2 (Nat.not_lt.mpr h1)) (Nat.lt_succ_self (N + 3)) (Nat.lt_succ_self (R + 3)) b5 with ⟨R2, s7, m7, mo2, q1, q2, q3, q4, q5, q6, q7, q8, q9, q10, q11, q12, q13⟩ | ⟨q1, q2, q3⟩
    · refine ⟨some f, D2, m2, m3, m4, m5, m6, m7, s7, true, ?_, j2, y1, y2, y3, y4, q2, pM5.2.2.2.2.2.1.2.1, gd, Or.inl ⟨rfl, R2, mo2, q3, q4, q5, q6, q7, q8, (kC 0).tr ((q9.kg N).lo (Nat.zero_le _)) (Nat.le_refl _), (kM 0).tr ((q10.kg R).lo (Nat.zero_le _)) (Nat.le_refl _), ?_, q11, q12, q13⟩⟩
      · rw [eC, q1, Option.bind_some, if_pos (show isZ (1 : Int32) = true by decide)]; rfl
      · rw [q10.2.1 25 (by decide), g6.2.1 25 (by decide), g5.2.1 25 (by decide), g4.2.1 25 (by decide), g3.2.1 25 (by decide), fm.2.1 25 (by decide) (by decide) (by decide)]
    · refine ⟨some f, D2, m2, m3, m4, m5, m6, _, s6, false, ?_, j2, y1, y2, y3, y4, q2, pM5.2.2.2.2.2.1.2.1, gd, Or.inr ⟨rfl, q3⟩⟩
      rw [eC, q1, Option.bind_some, if_pos (show isZ (0 : Int32) = true by decide)]; rfl
/-- what leads from either -/
theorem rule_lead4 {n : Nat} (hn : 100000 ≤ n) {D : HD} {Lv : Nat → LD} {d NC NR nC nM mo i : Nat} {sC sM : StT} (h : PRE D Lv d NC NR nC nM mo sC sM) (hi : i < zz (Lv d).1) (h5 : D.1.2.1 (fmR (Lv d).1 i) = 5) (ha : D.1.2.1 (D.1.2.2.1 (fmR (Lv d).1 i)) = 4) : OUT n D Lv d NC NR nC nM sC sM (f_X5_reduce n sC (nI d) (nI i)) (f_X12_going n sM (nI d) (nI i)) := by
  have hS := h.1
  have hRR := h.2.2.1
  have hd := h.2.2.2.2.2.2.1
  have hNC := h.2.2.2.2.2.2.2.1
  have hNR := h.2.2.2.2.2.2.2.2.1
  have hal := hRR.2.2.2.1
  obtain ⟨hf, _, htc, _, _⟩ := hRR.2.2.2.2.1 i hi
  have hw := hS.1.2.2.1
  have hl := hw.2.1
  have hlo := hw.lo hf (by omega)
  have hp : D.1.2.2.1 (fmR (Lv d).1 i) < D.1.1 := by omega
  have hlp := hw.lo hp (by omega)
  have k01 := kind01 hw hp
  have hn0 : ¬ nI (D.1.2.2.1 (fmR (Lv d).1 i)) = (0 : Int32) := fun e => by
    have := k01.1.mpr (nI_inj (b := 0) (by omega) (by omega) e); omega
  have hn1 : ¬ nI (D.1.2.2.1 (fmR (Lv d).1 i)) = (1 : Int32) := fun e => by
    have := k01.2.mpr (nI_inj (b := 1) (by omega) (by omega) e); omega
  obtain ⟨s2, m2, p0, hR1, ⟨R', hR2, e1, e2, e3, e4⟩, m25, s17, m22, ec, em⟩ := lead_ctx hn h hi h5
  have hC2 := p0.2.2.2.2.2.1.1
  have hM2 := p0.2.2.2.2.2.1.2.1
  have hmf := hM2.2 _ hf
  have hmp := hM2.2 _ hp
  obtain ⟨r, m3, NR', t1, t2, t3, t4, t5, t6, t7⟩ := termOfM (n := n) hR1 (by omega) hi p0.2.2.2.2.2.2.1.2 (by omega)
  obtain ⟨m4, v4, g4, r4, i4⟩ := tM_ex m3 (R := NR') (by omega) 77 (nI (aR (Lv d).1)) (nI r) (-1) (-1)
  have p1 := (p0.m1 t6 t5 t2).m1 g4 i4 (by omega)
  have hM4 := p1.2.2.2.2.2.1.2.1
  have hR3 : RR s2 m4 D.1.1 NC (NR' + 1) (d + 1) R' := hR2.gr (Nat.lt_succ_self _) (KGC.rf (d + 2) NC s2) ((t6.kg (d + 2)).tr (g4.kg (d + 2)) t2) (Nat.le_refl _) (Nat.le_refl _) (show NR ≤ NR' + 1 by omega)
  have hin : TTx s2 m4 D.1.1 (tcR (Lv d).1 i) r (aR R') (sR R') := by rw [e1, e2]; exact t7.gr (Nat.le_refl _) (fun _ _ => rfl) (GC.rf NC s2) g4 htc t4
  obtain ⟨o, D2, a2, a3, a4, a5, a6, a7, s', ok, x1, x2, x3, x4, x5, x6, x7, x8, x9, x10⟩ := side2 (Lv := Lv) hn hd p1 (by omega) (by omega) hR3 s17 (by rw [g4.1 22 (by decide), t6.1 22 (by decide)]; exact m22) hS.2.2.2.2.2.2.2 (a := D.1.2.2.1 (D.1.2.2.1 (fmR (Lv d).1 i))) (b := D.1.2.2.2 (fmR (Lv d).1 i)) (by omega) (by omega) htc (Nat.lt_succ_self NR') r4.1 (by rw [e1]; exact r4.2.1) r4.2.2.1 t4 hin (k := 73) (by decide)
  rw [ec, em]
  unfold f_X5_reduceImplication f_X12_leading
  rw [firstOfF0 hC2 hf, Option.bind_some]
  simp only []
  rw [secondOfF0 hC2 hf, Option.bind_some]
  simp only []
  rw [kindOfF0 hC2 hp, Option.bind_some, inB_nI (show fmR (Lv d).1 i < 4200 by omega) (by omega), if_pos rfl, if_pos rfl, nI_cl (show fmR (Lv d).1 i < 2 ^ 31 by omega), hmf.2.1, hmf.2.2]
  simp only []
  rw [ha, if_neg (show ¬ nI 4 = (1 : Int32) by decide), if_neg (show ¬ nI 4 = (2 : Int32) by decide), if_neg (show ¬ nI 4 = (3 : Int32) by decide), if_pos (show nI 4 = (4 : Int32) by decide), if_neg hn0, t1, Option.bind_some]
  simp only []
  rw [if_neg hn1, inB_nI (show D.1.2.2.1 (fmR (Lv d).1 i) < 4200 by omega) (by omega)]
  simp only [if_true]
  rw [nI_cl (show D.1.2.2.1 (fmR (Lv d).1 i) < 2 ^ 31 by omega), t6.2.1 0 (by decide), hmp.1, ha, if_neg (show ¬ nI 4 = (2 : Int32) by decide), termM t5 (by omega), v4, Option.bind_some]
  simp only []
  rw [(hM4.2 _ hp).1, ha, if_neg (show ¬ nI 4 = (3 : Int32) by decide), (hM4.2 _ hp).2.1, firstOfF0 hC2 hp, Option.bind_some, nI_1]
  simp only []
  rw [show (73 : Int32) = nI 73 from rfl, show (74 : Int32) = nI 74 from rfl, x1, x2, Option.bind_some, Option.bind_some]
  simp only []
  rw [e1] at x3 x7
  rw [x3, Option.bind_some]
  simp only []
  rw [x4, Option.bind_some]
  simp only []
  rw [x5, Option.bind_some]
  simp only []
  rw [(x8.2 _ (Nat.lt_of_lt_of_le hp x9.1)).2.1, (x9.2.1 _ hp).2.1, x6, Option.bind_some]
  simp only []
  rw [x7, Option.bind_some]
  simp only []
  rcases x10 with ⟨hok, R2, mo2, y1, y2, y3, y4, y5, y6, y7, y8, y9, y10, y11, y12⟩ | ⟨hok, y1⟩
  · rw [hok, show mI true = (1 : Int32) from rfl, if_neg (show ¬ (1 : Int32) = 0 by decide), if_neg (show ¬ (1 : Int32) = 0 by decide), secondOfF0 y1.2.2.2.2.2.1.1 (Nat.lt_of_lt_of_le hp x9.1), Option.bind_some]
    simp only []
    have hM7 := y1.2.2.2.2.2.1.2.1
    have hin2 : TTx s' a7 D2.1.1 (tcR (Lv d).1 i) r (aR R2) (sR R2) := by rw [y3, y4]; exact hin.kg x9.1 (fun _ _ => rfl) y7 y8 htc (by omega)
    obtain ⟨o', D3, b2, b3, b4, b5, b6, b7, s'', ok', z1, z2, z3, z4, z5, z6, z7, z8, z9, z10⟩ := side2 (Lv := Lv) hn hd y1 (by omega) (by omega) y2 y10 y11 y12 (a := D.1.2.2.2 (D.1.2.2.1 (fmR (Lv d).1 i))) (b := D.1.2.2.2 (fmR (Lv d).1 i)) (by have := x9.1; omega) (by have := x9.1; omega) (c := tcR (Lv d).1 i) (by omega) (r := NR') (by omega) (by rw [y8.2.2 14 NR' (by decide) (by decide) (Nat.lt_succ_self _)]; exact r4.1) (by rw [y8.2.2 15 NR' (by decide) (by decide) (Nat.lt_succ_self _), y3, e1]; exact r4.2.1) (by rw [y8.2.2 16 NR' (by decide) (by decide) (Nat.lt_succ_self _)]; exact r4.2.2.1) t4 hin2 (k := 74) (by decide)
    rw [(hM7.2 _ (Nat.lt_of_lt_of_le hp x9.1)).2.2, (x9.2.1 _ hp).2.2, z1, z2, Option.bind_some, Option.bind_some]
    simp only []
    rw [y3, e1] at z3 z7
    rw [z3, Option.bind_some]
    simp only []
    rw [z4, Option.bind_some]
    simp only []
    rw [z5, Option.bind_some]
    simp only []
    have gd3 := x9.tr z9
    rw [(z8.2 _ (Nat.lt_of_lt_of_le hp gd3.1)).2.2, (gd3.2.1 _ hp).2.2, z6, Option.bind_some]
    simp only []
    rw [z7, Option.bind_some]
    simp only []
    rw [if_pos (show isZ (mI ok') = true by cases ok' <;> rfl), Option.bind_some]
    unfold f_X12_going_231
    rcases z10 with ⟨hok', R3, mo3, w1, w2, w3, w4, w5, w6, w7, w8, w9, w10, w11, w12⟩ | ⟨hok', w1⟩
    · rw [hok', show mI true = (1 : Int32) from rfl, if_neg (show ¬ (1 : Int32) = 0 by decide), if_neg (show ¬ (1 : Int32) = 0 by decide), (waitC hd 0).2.2, Option.bind_some, bind_eta]
      refine same_fin (w := i) h w1 w10 w11 w12 (by omega) (by omega) ?_ w2 (Or.inr ?_) (w3.trans (y3.trans e1)) (fun k _ => by rw [w4, y4, e2]) (by rw [← e3]; omega) (fun j hj => ?_)
      · rw [w9, y9, g4.2.1 25 (by decide), t6.2.1 25 (by decide)]; exact m25
      · rw [(gd3.2.1 _ hf).1, h5]; decide
      · rw [← e3] at hj; rw [w6 j (by omega), y6 j (by omega)]; exact e4 j
    · rw [hok', show mI false = (0 : Int32) from rfl, if_pos rfl, if_pos rfl, (waitC hd 0).2.1, Option.bind_some]
      exact w1
  · rw [hok, show mI false = (0 : Int32) from rfl, if_pos rfl, if_pos rfl, (waitC hd 0).2.1, Option.bind_some, Option.bind_some]
    unfold f_X12_going_231
    rw [if_pos rfl]
    exact y1
