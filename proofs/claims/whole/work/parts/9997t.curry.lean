/-! ===== one of LEFT is reduced: what leads from both ===== -/
/-- the term for a formula that leads from both, taken one after the other -/
theorem curry2 {n : Nat} (hn : 100000 ≤ n) {D D1 : HD} {Lv : Nat → LD} {d NC NR nC nM N R mo1 : Nat} {sC sM s m : StT} {R' : RW} (hd : d < 200) (p : PRG D d NC NR nC nM sC sM D1 N R s m) (hN : N + 6 < 30027) (hR : R + 6 < 60000) (hrow : RR s m D1.1.1 N R (d + 1) R') (h17 : s.1 17 = nI mo1) (h22 : m.1 22 = nI mo1) (hmo : mo1 ≤ 60) {a b q c r r0 : Nat} (o : Option Nat) (ho : ∀ f, o = some f → f < D1.1.1) (hq : q < D1.1.1) (ha : D1.1.2.2.1 q = a) (hb : D1.1.2.2.2 q = b) (ha' : a < D1.1.1) (hb' : b < D1.1.1) (hc : c < N) (hr : r < R) (k1 : m.2.1 14 r = 77) (k2 : m.2.1 15 r = nI (aR R')) (k3 : m.2.1 16 r = nI r0) (k4 : r0 < r) (ht0 : TTx s m D1.1.1 c r0 (aR R') (sR R')) :
    ∃ (m7 s' : StT) (ok : Bool), f_X5_comesCurried_54 n s (nI (d + 1)) (nI c) (nI a) (nI b) (oI o) = some (mI ok, s') ∧ f_X12_leading_176 n m (nI (d + 1)) (nI (aR R')) (nI q) (nI r) (oI o) = some (mI ok, m7) ∧
      ((ok = true ∧ ∃ R2 mo2, PRG D d NC NR nC nM sC sM D1 (N + 6) (R + 6) s' m7 ∧ RR s' m7 D1.1.1 (N + 6) (R + 6) (d + 1) R2 ∧ aR R2 = aR R' ∧ sR R2 = sR R' ∧ zz R' ≤ zz R2 ∧ (∀ i, i < zz R' → fmR R2 i = fmR R' i) ∧ m7.2.1 25 = m.2.1 25 ∧ s'.1 17 = nI mo2 ∧ m7.1 22 = nI mo2 ∧ mo2 ≤ 60)
      ∨ (ok = false ∧ OUT n D Lv d NC NR nC nM sC sM (some (-7, s')) (some (3, m7)))) := by
  have hal := hrow.2.2.2.1
  have q16 := p.2.2.2.2.2.2.1.1
  have q18 := p.2.2.2.2.2.2.1.2
  have hF := p.2.2.2.2.2.1.2.2.1.2.1
  -- the reference's terms
  obtain ⟨m1, t1, g1', r1, e1⟩ := tM_ex m (R := R) (by omega) 72 (nI (aR R')) (-1) (-1) (-1)
  obtain ⟨m2, t2, g2', r2, e2⟩ := tM_ex m1 (R := R + 1) (by omega) 72 (nI (aR R' + 1)) (-1) (-1) (-1)
  obtain ⟨m3, t3, g3, r3, e3⟩ := tM_ex m2 (R := R + 2) (by omega) 80 0 (nI R) (nI (R + 1)) (-1)
  obtain ⟨m4, t4, g4, r4, e4⟩ := tM_ex m3 (R := R + 3) (by omega) 65 0 (nI r) (nI (R + 2)) (-1)
  obtain ⟨m5, t5, g5, r5, e5⟩ := tM_ex m4 (R := R + 4) (by omega) 76 (nI b) (nI (R + 3)) (-1) (-1)
  obtain ⟨m6, t6, g6, r6, e6⟩ := tM_ex m5 (R := R + 5) (by omega) 76 (nI a) (nI (R + 4)) (-1) (-1)
  have pM3 := ((p.m1 g1' e1 (by omega)).m1 g2' e2 (by omega)).m1 g3 e3 (by omega)
  have pM5 := (pM3.m1 g4 e4 (by omega)).m1 g5 e5 (by omega)
  have pM := pM5.m1 g6 e6 (by omega)
  have x22 : m6.1 22 = nI mo1 := by rw [g6.1 22 (by decide), g5.1 22 (by decide), g4.1 22 (by decide), g3.1 22 (by decide), g2'.1 22 (by decide), g1'.1 22 (by decide)]; exact h22
  have eM : f_X12_leading_176 n m (nI (d + 1)) (nI (aR R')) (nI q) (nI r) (oI o) = (f_X12_comes n m6 (nI (d + 1)) (oI o) (nI (R + 5)) (nI (aR R'))).bind fun q254 => (if isZ q254.1 = true then some (q254.1, q254.2) else none) := by
    unfold f_X12_leading_176
    rw [hypM q18 (by omega), t1, Option.bind_some]
    simp only []
    rw [nI_1, hypM e1 (by omega), t2, Option.bind_some]
    simp only []
    rw [termM e2 (by omega), t3, Option.bind_some]
    simp only []
    rw [inB_nI (show q < 4200 by omega) (by omega)]
    simp only [if_true]
    rw [termM e3 (by omega), t4, Option.bind_some]
    simp only []
    rw [nI_cl (show q < 2 ^ 31 by omega), (pM3.2.2.2.2.2.1.2.1.2 _ hq).2.2, hb, termM e4 (by omega), t5, Option.bind_some]
    simp only []
    rw [(pM5.2.2.2.2.2.1.2.1.2 _ hq).2.1, ha, termM e5 (by omega), t6, Option.bind_some]
  cases o with
  | none =>
    refine ⟨uF m6 24 (-7), s, false, ?_, ?_, Or.inr ⟨rfl, (pM.f24 (-7)).full h17 x22 rfl⟩⟩
    · unfold f_X5_comesCurried_54
      rw [if_neg (show ¬ (0 : Int32) ≤ oI none by decide)]
      rfl
    · rw [eM, show oI none = (-1 : Int32) from rfl, comesM_neg, Option.bind_some, if_pos (show isZ (0 : Int32) = true by decide)]; rfl
  | some f =>
    have hf := ho f rfl
    obtain ⟨s1, v1, c1, w1, i1⟩ := aT1_ex s (N := N) (by omega) 104 0 0 0 (-1)
    obtain ⟨s2, v2, c2, w2, i2⟩ := aT1_ex s1 (N := N + 1) (by omega) 104 0 0 0 (-1)
    obtain ⟨s3, v3, c3, w3, i3⟩ := aT1_ex s2 (N := N + 2) (by omega) 80 (nI N) (nI (N + 1)) 0 (-1)
    obtain ⟨s4, v4, c4, w4, i4⟩ := aT1_ex s3 (N := N + 3) (by omega) 65 (nI c) (nI (N + 2)) 0 (-1)
    obtain ⟨s5, v5, c5, w5, i5⟩ := aT1_ex s4 (N := N + 4) (by omega) 76 (nI (N + 3)) (nI b) 0 (nI (N + 1))
    obtain ⟨s6, v6, c6, w6, i6⟩ := aT1_ex s5 (N := N + 5) (by omega) 76 (nI (N + 4)) (nI a) 0 (nI N)
    have pE := (((((pM.c1 c1 i1 (by omega)).c1 c2 i2 (by omega)).c1 c3 i3 (by omega)).c1 c4 i4 (by omega)).c1 c5 i5 (by omega)).c1 c6 i6 (by omega)
    have C5 : GC (N + 5) s5 s6 := c6
    have C4 : GC (N + 4) s4 s6 := c5.tr C5 (by omega)
    have C3 : GC (N + 3) s3 s6 := c4.tr C4 (by omega)
    have C2 : GC (N + 2) s2 s6 := c3.tr C3 (by omega)
    have C1 : GC (N + 1) s1 s6 := c2.tr C2 (by omega)
    have C0 : GC N s s6 := c1.tr C1 (by omega)
    have G5 : GM (R + 5) m5 m6 := g6
    have G4 : GM (R + 4) m4 m6 := g5.tr G5 (by omega)
    have G3 : GM (R + 3) m3 m6 := g4.tr G4 (by omega)
    have G2 : GM (R + 2) m2 m6 := g3.tr G3 (by omega)
    have G1 : GM (R + 1) m1 m6 := g2'.tr G2 (by omega)
    have G0 : GM R m m6 := g1'.tr G1 (by omega)
    have hrow2 : RR s6 m6 D1.1.1 (N + 6) (R + 6) (d + 1) R' := hrow.gr (Nat.lt_succ_self _) (C0.kg _) (G0.kg _) (Nat.le_refl _) (by omega) (by omega)
    have b0 : TTx s6 m6 D1.1.1 c r0 (aR R') (sR R') := ht0.gr (Nat.le_refl _) (fun _ _ => rfl) C0 G0 hc (by omega)
    have hSN : ∀ k, k < aR R' → sR R' k < N := fun k hk => (hrow.2.2.2.2.2 k hk).1
    have hu1 : ∀ k, k < aR R' → updN (sR R') (aR R') N k = sR R' k := fun k hk => by unfold updN; rw [if_neg (by omega)]
    have hu2 : updN (sR R') (aR R') N (aR R') = N := by unfold updN; rw [if_pos rfl]
    have hu3 : ∀ k, k < aR R' + 1 → updN (updN (sR R') (aR R') N) (aR R' + 1) (N + 1) k = updN (sR R') (aR R') N k := fun k hk => by
      show (if k = aR R' + 1 then _ else _) = _; rw [if_neg (by omega)]
    have hu4 : updN (updN (sR R') (aR R') N) (aR R' + 1) (N + 1) (aR R' + 1) = N + 1 := by
      show (if aR R' + 1 = aR R' + 1 then _ else _) = _; rw [if_pos rfl]
    have N0 : s6.2.1 16 N = 104 := by rw [C1.2.2.1 16 N (by decide) (by decide) (by omega)]; exact w1.1
    have N1 : s6.2.1 16 (N + 1) = 104 := by rw [C2.2.2.1 16 (N + 1) (by decide) (by decide) (by omega)]; exact w2.1
    generalize hS2 : updN (updN (sR R') (aR R') N) (aR R' + 1) (N + 1) = S2 at hu3 hu4
    have b1 : TTx s6 m6 D1.1.1 c r (aR R' + 2) S2 := b0.in1 (by omega) (by omega) (by omega) (by rw [G0.2.2.1 14 r (by decide) (by decide) hr]; exact k1) (by rw [G0.2.2.1 15 r (by decide) (by decide) hr]; exact k2) (by rw [G0.2.2.1 16 r (by decide) (by decide) hr]; exact k3) k4 (fun k hk => by rw [hu3 k (by omega), hu1 k hk]) (fun k x y => by
      rcases (show k = aR R' ∨ k = aR R' + 1 by omega) with z | z
      · rw [z, hu3 _ (by omega), hu2]; omega
      · rw [z, hu4]; omega)
    have b2 : TTx s6 m6 D1.1.1 N R (aR R' + 2) S2 := TTx.hyp (k := aR R') (by omega) (by omega) (by omega) (by rw [G1.2.2.1 14 R (by decide) (by decide) (by omega)]; exact r1.1) N0 (by omega) (by rw [G1.2.2.1 15 R (by decide) (by decide) (by omega)]; exact r1.2.1) (by rw [hu3 _ (by omega), hu2])
    have b3 : TTx s6 m6 D1.1.1 (N + 1) (R + 1) (aR R' + 2) S2 := TTx.hyp (k := aR R' + 1) (by omega) (by omega) (by omega) (by rw [G2.2.2.1 14 (R + 1) (by decide) (by decide) (by omega)]; exact r2.1) N1 (by omega) (by rw [G2.2.2.1 15 (R + 1) (by decide) (by decide) (by omega)]; exact r2.2.1) hu4.symm
    have b4 : TTx s6 m6 D1.1.1 (N + 2) (R + 2) (aR R' + 2) S2 := TTx.two (k := 80) (by omega) (by omega) (by omega) (by decide) (by rw [G3.2.2.1 14 (R + 2) (by decide) (by decide) (by omega)]; exact r3.1) (by rw [C3.2.2.1 16 (N + 2) (by decide) (by decide) (by omega)]; exact w3.1) (by omega) (by rw [C3.2.2.1 17 (N + 2) (by decide) (by decide) (by omega)]; exact w3.2.1) (by omega) (by rw [G3.2.2.1 16 (R + 2) (by decide) (by decide) (by omega)]; exact r3.2.2.1) (by omega) (by rw [C3.2.2.1 18 (N + 2) (by decide) (by decide) (by omega)]; exact w3.2.2.1) (by omega) (by rw [G3.2.2.1 17 (R + 2) (by decide) (by decide) (by omega)]; exact r3.2.2.2.1) b2 b3
    have b5 : TTx s6 m6 D1.1.1 (N + 3) (R + 3) (aR R' + 2) S2 := TTx.two (k := 65) (by omega) (by omega) (by omega) (by decide) (by rw [G4.2.2.1 14 (R + 3) (by decide) (by decide) (by omega)]; exact r4.1) (by rw [C4.2.2.1 16 (N + 3) (by decide) (by decide) (by omega)]; exact w4.1) (by omega) (by rw [C4.2.2.1 17 (N + 3) (by decide) (by decide) (by omega)]; exact w4.2.1) (by omega) (by rw [G4.2.2.1 16 (R + 3) (by decide) (by decide) (by omega)]; exact r4.2.2.1) (by omega) (by rw [C4.2.2.1 18 (N + 3) (by decide) (by decide) (by omega)]; exact w4.2.2.1) (by omega) (by rw [G4.2.2.1 17 (R + 3) (by decide) (by decide) (by omega)]; exact r4.2.2.2.1) b1 b4
    have b6 : TTx s6 m6 D1.1.1 (N + 4) (R + 4) (aR R' + 1) (updN (sR R') (aR R') N) := TTx.lam (b := N + 1) (f := b) (c1 := N + 3) (r1 := R + 3) (by omega) (by omega) (by omega) (by rw [G5.2.2.1 14 (R + 4) (by decide) (by decide) (by omega)]; exact r5.1) (by rw [C5.2.2.1 16 (N + 4) (by decide) (by decide) (by omega)]; exact w5.1) hb' (by rw [C5.2.2.1 18 (N + 4) (by decide) (by decide) (by omega)]; exact w5.2.2.1) (by rw [G5.2.2.1 15 (R + 4) (by decide) (by decide) (by omega)]; exact r5.2.1) (Nat.lt_succ_self _) (by rw [C5.2.2.1 17 (N + 4) (by decide) (by decide) (by omega)]; exact w5.2.1) (Nat.lt_succ_self _) (by rw [G5.2.2.1 16 (R + 4) (by decide) (by decide) (by omega)]; exact r5.2.2.1) (Or.inl ⟨by rw [C5.2.2.1 20 (N + 4) (by decide) (by decide) (by omega)]; exact w5.2.2.2.2, by omega, N1, fun k hk => by
        by_cases ck : k < aR R'
        · rw [hu1 k ck]; have := hSN k ck; omega
        · rw [show k = aR R' by omega, hu2]; omega⟩) (by rw [hS2]; exact b5)
    have b7 : TTx s6 m6 D1.1.1 (N + 5) (R + 5) (aR R') (sR R') := TTx.lam (b := N) (by omega) (by omega) (by omega) r6.1 w6.1 ha' w6.2.2.1 r6.2.1 (Nat.lt_succ_self _) w6.2.1 (Nat.lt_succ_self _) r6.2.2.1 (Or.inl ⟨w6.2.2.2.2, by omega, N0, fun k hk => by have := hSN k hk; omega⟩) b6
    have z17 : s6.1 17 = nI mo1 := by rw [C0.1 17 (by decide)]; exact h17
    have eC : f_X5_comesCurried_54 n s (nI (d + 1)) (nI c) (nI a) (nI b) (oI (some f)) = (f_X6_comes n s6 (nI (d + 1)) (nI f) (nI (N + 5))).bind fun q140 => (if isZ q140.1 = true then some (q140.1, q140.2) else none) := by
      unfold f_X5_comesCurried_54
      rw [if_pos (show (0 : Int32) ≤ oI (some f) from nI_nn (by omega)), hypC q16 (by omega), Option.bind_some, v1]
      simp only []
      rw [hypC i1 (by omega), Option.bind_some, v2]
      simp only []
      rw [twoC i2 (by omega), Option.bind_some, v3]
      simp only []
      rw [twoC i3 (by omega), Option.bind_some, v4]
      simp only []
      rw [lamC i4 (by omega), Option.bind_some, v5]
      simp only []
      rw [lamC i5 (by omega), Option.bind_some, v6]
      rfl
    rcases PRG.come (Lv := Lv) hn pE hd hrow2 z17 x22 hmo hf (Nat.le_refl _) (fun k h1 h2 => absurd h2 (Nat.not_lt.mpr h1)) (Nat.lt_succ_self (N + 5)) (Nat.lt_succ_self (R + 5)) b7 with ⟨R2, s7, m7, mo2, q1, q2, q3, q4, q5, q6, q7, q8, q9, q10, q11, q12, q13⟩ | ⟨q1, q2, q3⟩
    · refine ⟨m7, s7, true, ?_, ?_, Or.inl ⟨rfl, R2, mo2, q3, q4, q5, q6, q7, q8, ?_, q11, q12, q13⟩⟩
      · rw [eC, q1, Option.bind_some, if_pos (show isZ (1 : Int32) = true by decide)]; rfl
      · rw [eM, show oI (some f) = nI f from rfl, q2, Option.bind_some, if_pos (show isZ (1 : Int32) = true by decide)]; rfl
      · rw [q10.2.1 25 (by decide), G0.2.1 25 (by decide)]
    · refine ⟨_, s6, false, ?_, ?_, Or.inr ⟨rfl, q3⟩⟩
      · rw [eC, q1, Option.bind_some, if_pos (show isZ (0 : Int32) = true by decide)]; rfl
      · rw [eM, show oI (some f) = nI f from rfl, q2, Option.bind_some, if_pos (show isZ (0 : Int32) = true by decide)]; rfl
theorem rule_lead3 {n : Nat} (hn : 100000 ≤ n) {D : HD} {Lv : Nat → LD} {d NC NR nC nM mo i : Nat} {sC sM : StT} (h : PRE D Lv d NC NR nC nM mo sC sM) (hi : i < zz (Lv d).1) (h5 : D.1.2.1 (fmR (Lv d).1 i) = 5) (ha : D.1.2.1 (D.1.2.2.1 (fmR (Lv d).1 i)) = 3) : OUT n D Lv d NC NR nC nM sC sM (f_X5_reduce n sC (nI d) (nI i)) (f_X12_going n sM (nI d) (nI i)) := by
  have hS := h.1
  have hRR := h.2.2.1
  have hd := h.2.2.2.2.2.2.1
  have hNC := h.2.2.2.2.2.2.2.1
  have hNR := h.2.2.2.2.2.2.2.2.1
  have hal := hRR.2.2.2.1
  obtain ⟨hf, _, htc, _, _⟩ := hRR.2.2.2.2.1 i hi
  have hw := hS.1.2.2.1
  have hl := hw.2.1
  have hlo := hw.lo hf (by omega)
  have hp : D.1.2.2.1 (fmR (Lv d).1 i) < D.1.1 := by omega
  have hlp := hw.lo hp (by omega)
  have k01 := kind01 hw hp
  have hn0 : ¬ nI (D.1.2.2.1 (fmR (Lv d).1 i)) = (0 : Int32) := fun e => by
    have := k01.1.mpr (nI_inj (b := 0) (by omega) (by omega) e); omega
  have hn1 : ¬ nI (D.1.2.2.1 (fmR (Lv d).1 i)) = (1 : Int32) := fun e => by
    have := k01.2.mpr (nI_inj (b := 1) (by omega) (by omega) e); omega
  obtain ⟨s2, m2, p0, hR1, ⟨R', hR2, e1, e2, e3, e4⟩, m25, s17, m22, ec, em⟩ := lead_ctx hn h hi h5
  have hC2 := p0.2.2.2.2.2.1.1
  have hM2 := p0.2.2.2.2.2.1.2.1
  have hmf := hM2.2 _ hf
  have hmp := hM2.2 _ hp
  obtain ⟨r, m3, NR', t1, t2, t3, t4, t5, t6, t7⟩ := termOfM (n := n) hR1 (by omega) hi p0.2.2.2.2.2.2.1.2 (by omega)
  obtain ⟨m4, v4, g4, r4, i4⟩ := tM_ex m3 (R := NR') (by omega) 77 (nI (aR (Lv d).1)) (nI r) (-1) (-1)
  have p1 := (p0.m1 t6 t5 t2).m1 g4 i4 (by omega)
  have hM4 := p1.2.2.2.2.2.1.2.1
  have hR3 : RR s2 m4 D.1.1 NC (NR' + 1) (d + 1) R' := hR2.gr (Nat.lt_succ_self _) (KGC.rf (d + 2) NC s2) ((t6.kg (d + 2)).tr (g4.kg (d + 2)) t2) (Nat.le_refl _) (Nat.le_refl _) (show NR ≤ NR' + 1 by omega)
  have hin : TTx s2 m4 D.1.1 (tcR (Lv d).1 i) r (aR R') (sR R') := by rw [e1, e2]; exact t7.gr (Nat.le_refl _) (fun _ _ => rfl) (GC.rf NC s2) g4 htc t4
  have x17 : s2.1 17 = nI mo := s17
  have x22 : m4.1 22 = nI mo := by rw [g4.1 22 (by decide), t6.1 22 (by decide)]; exact m22
  -- the two joins
  have J : ∃ (o : Option Nat) (D2 : HD) (s5 m5 : StT), f_X5_comesCurried n s2 (nI (d + 1)) (nI (D.1.2.2.1 (fmR (Lv d).1 i))) (nI (D.1.2.2.2 (fmR (Lv d).1 i))) (nI (tcR (Lv d).1 i)) = f_X5_comesCurried_54 n s5 (nI (d + 1)) (nI (tcR (Lv d).1 i)) (nI (D.1.2.2.1 (D.1.2.2.1 (fmR (Lv d).1 i)))) (nI (D.1.2.2.2 (D.1.2.2.1 (fmR (Lv d).1 i)))) (oI o) ∧
      ((f_X12_formulaOf n m4 (5 : Int32) (nI (D.1.2.2.2 (D.1.2.2.1 (fmR (Lv d).1 i)))) (nI (D.1.2.2.2 (fmR (Lv d).1 i)))).bind fun q148 => (if 0 ≤ q148.1 then ((f_X12_formulaOf n q148.2 (5 : Int32) (q148.2.2.1 1 (D.1.2.2.1 (fmR (Lv d).1 i))) q148.1).bind fun q173 => (f_X12_leading_176 n q173.2 (nI (d + 1)) (nI (aR (Lv d).1)) (nI (D.1.2.2.1 (fmR (Lv d).1 i))) (nI NR') q173.1)) else (f_X12_leading_176 n q148.2 (nI (d + 1)) (nI (aR (Lv d).1)) (nI (D.1.2.2.1 (fmR (Lv d).1 i))) (nI NR') (-1 : Int32)))) = f_X12_leading_176 n m5 (nI (d + 1)) (nI (aR (Lv d).1)) (nI (D.1.2.2.1 (fmR (Lv d).1 i))) (nI NR') (oI o) ∧
      PRG D d NC NR nC nM sC sM D2 NC (NR' + 1) s5 m5 ∧ Gd D D2 ∧ (∀ f, o = some f → f < D2.1.1) ∧ FrC s2 s5 ∧ FrM m4 m5 := by
    obtain ⟨o, D2, s5, m5, j1, j2, p2, gd, jo, fc, fm⟩ := p1.joinB hn (a := D.1.2.2.2 (D.1.2.2.1 (fmR (Lv d).1 i))) (b := D.1.2.2.2 (fmR (Lv d).1 i)) (by omega) (by omega)
    have hp2 := Nat.lt_of_lt_of_le hp gd.1
    have hF2 := p2.2.2.2.2.2.1.2.2.1.2.1
    unfold f_X5_comesCurried
    rw [firstOfF0 hC2 hp, Option.bind_some]
    simp only []
    rw [secondOfF0 hC2 hp, Option.bind_some]
    simp only []
    rw [j1, j2, Option.bind_some, Option.bind_some]
    simp only []
    cases o with
    | none =>
      refine ⟨none, D2, s5, m5, ?_, ?_, p2, gd, (fun f hf => by cases hf), fc, fm⟩
      · rw [if_neg (show ¬ (0 : Int32) ≤ oI none by decide)]; rfl
      · rw [if_neg (show ¬ (0 : Int32) ≤ oI none by decide)]; rfl
    | some f =>
      have hf' := jo f rfl
      obtain ⟨o', D3, s6, m6, l1, l2, p3, gd', jo', fc', fm'⟩ := p2.joinB hn (a := D.1.2.2.1 (D.1.2.2.1 (fmR (Lv d).1 i))) (b := f) (by omega) hf'
      refine ⟨o', D3, s6, m6, ?_, ?_, p3, gd.tr gd', jo', fc.tr fc', fm.tr fm'⟩
      · rw [if_pos (show (0 : Int32) ≤ oI (some f) from nI_nn (by omega)), show oI (some f) = nI f from rfl, l1, Option.bind_some]
      · rw [if_pos (show (0 : Int32) ≤ oI (some f) from nI_nn (by omega)), show oI (some f) = nI f from rfl, (p2.2.2.2.2.2.1.2.1.2 _ hp2).2.1, (gd.2.1 _ hp).2.1, l2, Option.bind_some]
  obtain ⟨o, D2, s5, m5, j1, j2, p2, gd, jo, fc, fm⟩ := J
  have hR4 : RR s5 m5 D2.1.1 NC (NR' + 1) (d + 1) R' := hR3.gr (Nat.lt_succ_self _) (fc.kg _ _) (fm.kg _ _) gd.1 (Nat.le_refl _) (Nat.le_refl _)
  have m5j : ∀ j, 13 < j → m5.2.1 j = m4.2.1 j := fun j hj => fm.2.1 j (by omega) (by omega) (by omega)
  have gq := gd.2.1 _ hp
  obtain ⟨m7, s', ok, y1, y2, y3⟩ := curry2 (Lv := Lv) hn hd p2 (by omega) (by omega) hR4 (by rw [fc.1 17 (by decide)]; exact x17) (by rw [fm.1 22 (by decide)]; exact x22) hS.2.2.2.2.2.2.2 (q := D.1.2.2.1 (fmR (Lv d).1 i)) o jo (by have := gd.1; omega) gq.2.1 gq.2.2 (by have := gd.1; omega) (by have := gd.1; omega) htc (r := NR') (Nat.lt_succ_self _) (by rw [m5j 14 (by decide)]; exact r4.1) (by rw [m5j 15 (by decide), e1]; exact r4.2.1) (by rw [m5j 16 (by decide)]; exact r4.2.2.1) t4 (hin.kg (e := 0) (NC := NC) (NR := NR' + 1) gd.1 (fun _ _ => rfl) (fc.kg _ _) (fm.kg _ _) htc (by omega))
  rw [ec, em]
  unfold f_X5_reduceImplication f_X12_leading
  rw [firstOfF0 hC2 hf, Option.bind_some]
  simp only []
  rw [secondOfF0 hC2 hf, Option.bind_some]
  simp only []
  rw [kindOfF0 hC2 hp, Option.bind_some, inB_nI (show fmR (Lv d).1 i < 4200 by omega) (by omega), if_pos rfl, if_pos rfl, nI_cl (show fmR (Lv d).1 i < 2 ^ 31 by omega), hmf.2.1, hmf.2.2]
  simp only []
  rw [ha, if_neg (show ¬ nI 3 = (1 : Int32) by decide), if_neg (show ¬ nI 3 = (2 : Int32) by decide), if_pos (show nI 3 = (3 : Int32) by decide), if_neg hn0, t1, Option.bind_some]
  simp only []
  rw [if_neg hn1, inB_nI (show D.1.2.2.1 (fmR (Lv d).1 i) < 4200 by omega) (by omega)]
  simp only [if_true]
  rw [nI_cl (show D.1.2.2.1 (fmR (Lv d).1 i) < 2 ^ 31 by omega), t6.2.1 0 (by decide), hmp.1, ha, if_neg (show ¬ nI 3 = (2 : Int32) by decide), termM t5 (by omega), v4, Option.bind_some]
  simp only []
  rw [(hM4.2 _ hp).1, ha, if_pos (show nI 3 = (3 : Int32) by decide), (hM4.2 _ hp).2.2, nI_1, j1, j2, y1, Option.bind_some]
  rw [e1] at y2
  rw [y2, Option.bind_some]
  simp only []
  unfold f_X12_going_231
  rcases y3 with ⟨hok, R2, mo2, z1, z2, z3, z4, z5, z6, z7, z8, z9, z10⟩ | ⟨hok, z1⟩
  · rw [hok, show mI true = (1 : Int32) from rfl, if_neg (show ¬ (1 : Int32) = 0 by decide), (waitC hd 0).2.2, Option.bind_some, bind_eta]
    refine same_fin (w := i) h z1 z8 z9 z10 (by omega) (by omega) ?_ z2 (Or.inr ?_) (z3.trans e1) (fun k _ => by rw [z4, e2]) (by rw [← e3]; omega) (fun j hj => ?_)
    · rw [z7, m5j 25 (by decide), g4.2.1 25 (by decide), t6.2.1 25 (by decide)]; exact m25
    · rw [(gd.2.1 _ hf).1, h5]; decide
    · rw [← e3] at hj; rw [z6 j (by omega)]; exact e4 j
  · rw [hok, show mI false = (0 : Int32) from rfl, if_pos rfl, (waitC hd 0).2.1, Option.bind_some]
    exact z1
