/-! ===== one of LEFT that needs a premise of its own is tried: stage 8 ===== -/
theorem nest_fin {n : Nat} {D D1 : HD} {Lv : Nat → LD} {d NC NR nC nM mo NC1 NR1 mo1 i b : Nat} {sC sM s m : StT} {R' : RW} (h : PRE D Lv d NC NR nC nM mo sC sM) (hi : i < zz (Lv d).1) (p : PRG D d NC NR nC nM sC sM D1 NC1 NR1 s m) (h17 : s.1 17 = nI mo1) (h22 : m.1 22 = nI mo1) (hmo : mo1 ≤ 60) (b1 : NC1 ≤ NC + 8) (b2 : NR1 ≤ NR + 11) (h25 : m.2.1 25 d = nI 9) (h26 : m.2.1 26 d = nI i) (h32 : s.2.1 32 d = nI i) (h34 : s.2.1 34 d = nI b) (hb1 : b < NC1) (hb2 : s.2.1 16 b = 104) (hb4 : FRE (Lv d).1 b) (hR : RR s m D1.1.1 NC1 NR1 (d + 1) R') (h5 : D1.1.2.1 (fmR (Lv d).1 i) = 5) (h55 : D1.1.2.1 (D1.1.2.2.1 (fmR (Lv d).1 i)) = 5) (e1 : aR R' = aR (Lv d).1 + 1) (e2 : sR R' = updN (sR (Lv d).1) (aR (Lv d).1) b) (e3 : nz (zz (Lv d).1) i ≤ zz R') (e4 : ∀ j, j < nz (zz (Lv d).1) i → fmR R' j = fmR (Lv d).1 (skp i j)) : OUT n D Lv d NC NR nC nM sC sM (some (2, uA s 31 (nI d) 8)) (f_X12_begin n m) := by
  have hd := h.2.2.2.2.2.2.1
  have p4 := p.cc 31 (by decide) (by omega) 8
  have cC : ∀ j, 31 < j → (uA s 31 (nI d) 8).2.1 j = s.2.1 j := fun j hj => by simp only [uA_21]; rw [if_neg (by omega)]
  refine PRG.laid (q := (8, i, 0, 0, b)) h p4 h17 h22 hmo b1 b2 ?_ (hR.gr (Nat.lt_succ_self _) (KGC.uA (by decide)) (KGM.rf _ _ _) (Nat.le_refl _) (Nat.le_refl _) (Nat.le_refl _))
  refine ⟨⟨by simp only [uA_21, if_true, upd_j, nI_cl (show d < 2 ^ 31 by omega)]; rfl, h25, show (8 : Nat) ≤ 8 by decide⟩, fun i' hi' hk => ?_, fun k hk => ?_, Or.inr ⟨show 8 ∈ [1, 4, 5, 8] by decide, e1, ?_, ?_, hb1, ?_, hb4⟩, ⟨fun x => absurd (show (8 : Nat) = 1 from x) (by decide), fun x => absurd (show 8 ∈ [2, 3] from x) (by decide), fun x => absurd (show 8 ∈ [6, 7] from x) (by decide)⟩, fun x => absurd (show (8 : Nat) = 3 from x) (by decide), fun x => absurd (show (8 : Nat) = 5 from x) (by decide), fun _ => ⟨by rw [cC 32 (by decide)]; exact h32, h26, hi⟩, fun x => absurd (show 8 ∈ [4, 5] from x) (by decide), fun _ => ⟨h5, h55⟩, fun x => absurd (show (8 : Nat) = 6 from x) (by decide), fun x => absurd (show (8 : Nat) = 7 from x) (by decide)⟩
  · obtain ⟨j, hj, ej⟩ := keepV (t := D1.1) (Or.inr (by rw [h5]; decide)) i' hi' hk
    exact ⟨j, Nat.lt_of_lt_of_le hj e3, (e4 j hj).trans ej⟩
  · have hk : k < aR (Lv d).1 := hk
    rw [e2]; unfold updN; rw [if_neg (by omega)]
  · rw [e2]; unfold updN; rw [if_pos rfl]
  · rw [cC 34 (by decide)]; exact h34
  · show (uA s 31 (nI d) 8).2.1 16 b = 104
    simp only [uA_21, if_neg (show ¬ (16 : Nat) = 31 by decide)]; exact hb2
theorem rule_nested {n : Nat} (hn : 100000 ≤ n) {D : HD} {Lv : Nat → LD} {d NC NR nC nM mo i : Nat} {sC sM : StT} (h : PRE D Lv d NC NR nC nM mo sC sM) (hi : i < zz (Lv d).1) (h5 : D.1.2.1 (fmR (Lv d).1 i) = 5) (h55 : D.1.2.1 (D.1.2.2.1 (fmR (Lv d).1 i)) = 5) : OUT n D Lv d NC NR nC nM sC sM (f_X5_beginNested n sC (nI d) (nI i)) (f_X12_needs_36 n sM (nI d) (nI i)) := by
  have hS := h.1
  have hRR := h.2.2.1
  have hd := h.2.2.2.2.2.2.1
  have hNC := h.2.2.2.2.2.2.2.1
  have hNR := h.2.2.2.2.2.2.2.2.1
  have hal := hRR.2.2.2.1
  have hz := hRR.1.2.1
  obtain ⟨hf, _, htc, _, _⟩ := hRR.2.2.2.2.1 i hi
  have hw := hS.1.2.2.1
  have hl := hw.2.1
  have hlo := hw.lo hf (by omega)
  have hp : D.1.2.2.1 (fmR (Lv d).1 i) < D.1.1 := by omega
  have hlp := hw.lo hp (by omega)
  have hC := hS.1.1
  have hM := hS.1.2.1
  have hmf := hM.2 _ hf
  have hmp := hM.2 _ hp
  have hr := hRR.2.1.2.2.2.2 i hi
  have hzM := hRR.2.1.1
  have haM := hRR.2.1.2.2.2.1
  -- the reference lays the row
  have q0 := ((PRG.start (d := d) hS).mc 26 (by decide) (by omega) (nI i)).mc 25 (by decide) (by omega) 9
  have hRm : RM (uA (uA sM 26 (nI d) (nI i)) 25 (nI d) 9) d _ _ _ _ _ _ := hRR.2.1.keep (fun j x y => by simp only [uA_21]; rw [if_neg (by omega), if_neg (by omega)])
  obtain ⟨m2, d1, d2, d3, d4⟩ := withinM hn (g' := D.1.2.2.2 (D.1.2.2.1 (fmR (Lv d).1 i))) (ar' := aR (Lv d).1 + 1) hRm (by omega) (at_w hz hi)
  have p0 := q0.lw (LWC.rf _ _) d2
  have hR1 := hRR.gr (Nat.lt_succ_self d) p0.2.2.1.1 p0.2.2.1.2 (Nat.le_refl _) (Nat.le_refl _) (Nat.le_refl _)
  obtain ⟨r, m3, NR', t1, t2, t3, t4, t5, t6, t7⟩ := termOfM (n := n) hR1 (by omega) hi p0.2.2.2.2.2.2.1.2 (by omega)
  obtain ⟨m4, v4, g4, r4, i4⟩ := tM_ex m3 (R := NR') (by omega) 77 (nI (aR (Lv d).1)) (nI r) (-1) (-1)
  have p1 := (p0.m1 t6 t5 t2).m1 g4 i4 (by omega)
  have hM4 := p1.2.2.2.2.2.1.2.1
  obtain ⟨o, D2, s5, m5, j1, j2, p2, gd, jo, fc, fm⟩ := p1.joinB hn (a := D.1.2.2.2 (D.1.2.2.1 (fmR (Lv d).1 i))) (b := D.1.2.2.2 (fmR (Lv d).1 i)) (by omega) (by omega)
  have hF2 := p2.2.2.2.2.2.1.2.2.1.2.1
  have q16 := p2.2.2.2.2.2.2.1.1
  have q18 := p2.2.2.2.2.2.2.1.2
  -- the reference's terms
  obtain ⟨m6, l6, g6, r6, i6⟩ := tM_ex m5 (R := NR' + 1) (by omega) 72 (nI (aR (Lv d).1)) (-1) (-1) (-1)
  obtain ⟨m7, l7, g7, r7, i7⟩ := tM_ex m6 (R := NR' + 2) (by omega) 76 (nI (D.1.2.2.1 (D.1.2.2.1 (fmR (Lv d).1 i)))) (nI (NR' + 1)) (-1) (-1)
  obtain ⟨m8, l8, g8, r8, i8⟩ := tM_ex m7 (R := NR' + 3) (by omega) 65 0 (nI NR') (nI (NR' + 2)) (-1)
  obtain ⟨m9, l9, g9, r9, i9⟩ := tM_ex m8 (R := NR' + 4) (by omega) 76 (nI (D.1.2.2.2 (D.1.2.2.1 (fmR (Lv d).1 i)))) (nI (NR' + 3)) (-1) (-1)
  have pM := (((p2.m1 g6 i6 (by omega)).m1 g7 i7 (by omega)).m1 g8 i8 (by omega)).m1 g9 i9 (by omega)
  have G8 : GM (NR' + 4) m8 m9 := g9
  have G7 : GM (NR' + 3) m7 m9 := g8.tr G8 (by omega)
  have G6 : GM (NR' + 2) m6 m9 := g7.tr G7 (by omega)
  have G5 : GM (NR' + 1) m5 m9 := g6.tr G6 (by omega)
  have x22 : m9.1 22 = nI mo := by rw [G5.1 22 (by decide), fm.1 22 (by decide), g4.1 22 (by decide), t6.1 22 (by decide), d3]; exact hS.2.2.2.2.2.2.1
  have x17 : s5.1 17 = nI mo := by rw [fc.1 17 (by decide)]; exact hS.2.2.2.2.2.1
  have M25 : ∀ j, 24 < j → m9.2.1 j = (uA (uA sM 26 (nI d) (nI i)) 25 (nI d) 9).2.1 j := fun j hj => by
    rw [G5.2.1 j (by omega), fm.2.1 j (by omega) (by omega) (by omega), g4.2.1 j (by omega), t6.2.1 j (by omega), d2.2.1 j (by omega)]
  have h25 : m9.2.1 25 d = nI 9 := by rw [M25 25 (by decide)]; simp only [uA_21, if_true, upd_j, nI_cl (show d < 2 ^ 31 by omega)]; rfl
  have h26 : m9.2.1 26 d = nI i := by rw [M25 26 (by decide)]; simp only [uA_21, if_true, if_neg (show ¬ (26 : Nat) = 25 by decide), upd_j, nI_cl (show d < 2 ^ 31 by omega)]
  have eM : f_X12_needs_36 n sM (nI d) (nI i) = ((f_X12_comes n m9 (nI (d + 1)) (oI o) (nI (NR' + 4)) (nI (aR (Lv d).1))).bind fun q240 => (if q240.1 = 0 then (f_X12_needs_272 n q240.2 (0 : Int32)) else ((f_X12_hypothesis n q240.2 (nI (aR (Lv d).1))).bind fun q254 => ((f_X12_comes n q254.2 (nI (d + 1)) (nI (D.1.2.2.1 (D.1.2.2.1 (fmR (Lv d).1 i)))) q254.1 (nI (aR (Lv d).1 + 1))).bind fun q261 => (if q261.1 = 0 then (f_X12_needs_272 n q261.2 (0 : Int32)) else (f_X12_needs_272 n q261.2 (1 : Int32))))))) := by
    unfold f_X12_needs_36
    rw [inB_nI (show d < 201 by omega) (by omega), n60b, inB_nI (show 60 * d + i < 12060 by omega) (by omega), nI_cl (show d < 2 ^ 31 by omega), nI_cl (show 60 * d + i < 2 ^ 31 by omega), hzM, hr.1, inB_nI (show fmR (Lv d).1 i < 4200 by omega) (by omega), nI_cl (show fmR (Lv d).1 i < 2 ^ 31 by omega), hmf.2.1, inB_nI (show D.1.2.2.1 (fmR (Lv d).1 i) < 4200 by omega) (by omega), nI_cl (show D.1.2.2.1 (fmR (Lv d).1 i) < 2 ^ 31 by omega), hmp.2.1, hmp.2.2, haM, nI_1, nI_1]
    simp only [if_true]
    rw [if_neg (show ¬ nI i = nI (zz (Lv d).1) from fun e => by have := nI_inj (by omega) (by omega) e; omega), d1, Option.bind_some, t1, Option.bind_some]
    simp only []
    rw [termM t5 (by omega), v4, Option.bind_some]
    simp only []
    rw [(hM4.2 _ hf).2.2, j2, Option.bind_some]
    simp only []
    rw [hypM q18 (by omega), l6, Option.bind_some]
    simp only []
    rw [termM i6 (by omega), l7, Option.bind_some]
    simp only []
    rw [termM i7 (by omega), l8, Option.bind_some]
    simp only []
    rw [termM i8 (by omega), l9, Option.bind_some]
  rw [eM]
  have eC0 : f_X5_beginNested n sC (nI d) (nI i) = (if 0 ≤ oI o then ((f_X7_hypothesis_T1 n s5 (0 : Int32)).bind fun q77 => ((f_X6_termAt n q77.2 (nI d) (nI i)).bind fun q94 => ((f_X7_lambda_T1 n q94.2 (nI (D.1.2.2.1 (D.1.2.2.1 (fmR (Lv d).1 i)))) q77.1 (-1 : Int32)).bind fun q106 => ((f_X7_two_T1 n q106.2 (65 : Int32) q94.1 q106.1).bind fun q109 => ((f_X5_keep_43 n q109.2 (nI d) (nI i)).bind fun q120 => ((f_X7_hypothesis_T1 n q120 (0 : Int32)).bind fun q133 => ((f_X5_keep_45 n q133.2 (nI d) q133.1).bind fun q136 => ((f_X6_follow n q136 (nI d) (nI i) (nI (D.1.2.2.2 (D.1.2.2.1 (fmR (Lv d).1 i))))).bind fun q147 => ((f_X7_lambda_T1 n q147 (nI (D.1.2.2.2 (D.1.2.2.1 (fmR (Lv d).1 i)))) q109.1 q77.1).bind fun q170 => ((f_X6_comes n q170.2 (nI (d + 1)) (oI o) q170.1).bind fun q173 => (if q173.1 = 0 then ((f_X5_waitIf n q173.2 (0 : Int32) (nI d) (8 : Int32)).bind fun q210 => (some (q210.1, q210.2))) else ((f_X5_kept_45 n q173.2 (nI d)).bind fun q193 => ((f_X6_comes n q193.2 (nI (d + 1)) (nI (D.1.2.2.1 (D.1.2.2.1 (fmR (Lv d).1 i)))) q193.1).bind fun q196 => (if q196.1 = 0 then ((f_X5_waitIf n q196.2 (0 : Int32) (nI d) (8 : Int32)).bind fun q210 => (some (q210.1, q210.2))) else ((f_X5_waitIf n q196.2 (1 : Int32) (nI d) (8 : Int32)).bind fun q210 => (some (q210.1, q210.2))))))))))))))))) else (some ((-7 : Int32), s5))) := by
    unfold f_X5_beginNested
    rw [(fAtC hRR.1 (by omega) hi).1, Option.bind_some]
    simp only []
    rw [firstOfF0 hC hf, Option.bind_some]
    simp only []
    rw [firstOfF0 hC hp, Option.bind_some]
    simp only []
    rw [firstOfF0 hC hf, Option.bind_some]
    simp only []
    rw [secondOfF0 hC hp, Option.bind_some]
    simp only []
    rw [secondOfF0 hC hf, Option.bind_some]
    simp only []
    rw [j1, Option.bind_some]
    simp only [nI_1]
  rw [eC0]
  cases o with
  | none =>
    rw [if_neg (show ¬ (0 : Int32) ≤ oI none by decide), show oI none = (-1 : Int32) from rfl, comesM_neg, Option.bind_some]
    simp only [if_true]
    unfold f_X12_needs_272
    rw [if_pos rfl]
    exact (pM.f24 (-7)).full x17 x22 rfl
  | some f =>
    have hf' := jo f rfl
    rw [if_pos (show (0 : Int32) ≤ oI (some f) from nI_nn (by omega)), show oI (some f) = nI f from rfl]
    have hRs5 := hRR.gr (Nat.lt_succ_self d) pM.2.2.1.1 pM.2.2.1.2 gd.1 (Nat.le_refl _) (show NR ≤ NR' + 4 + 1 by omega)
    obtain ⟨s6, v6, c6, w6, k6⟩ := aT1_ex s5 (N := NC) (by omega) 104 0 0 0 (-1)
    have hR6 : RC s6 d _ _ _ _ := hRs5.1.keep (fun j x y => c6.2.1 j (by omega))
    obtain ⟨s7, v7, c7, w7, k7⟩ := aT1_ex s6 (N := NC + 1) (by omega) 76 (nI NC) (nI (D.1.2.2.1 (D.1.2.2.1 (fmR (Lv d).1 i)))) 0 (-1)
    obtain ⟨s8, v8, c8, w8, k8⟩ := aT1_ex s7 (N := NC + 2) (by omega) 65 (nI (tcR (Lv d).1 i)) (nI (NC + 1)) 0 (-1)
    obtain ⟨s9, v9, c9, w9, k9⟩ := aT1_ex (uA s8 32 (nI d) (nI i)) (N := NC + 3) (by omega) 104 0 0 0 (-1)
    have pC := ((((pM.c1 c6 k6 (by omega)).c1 c7 k7 (by omega)).c1 c8 k8 (by omega)).cc 32 (by decide) (by omega) (nI i)).c1 c9 k9 (by omega)
    have pC2 := pC.cc 34 (by decide) (by omega) (nI (NC + 3))
    have hRs9 := hRR.gr (Nat.lt_succ_self d) pC2.2.2.1.1 pC2.2.2.1.2 gd.1 (show NC ≤ NC + 3 + 1 by omega) (show NR ≤ NR' + 4 + 1 by omega)
    obtain ⟨s10, u1, u2, u3, u4⟩ := followC hn (g' := D.1.2.2.2 (D.1.2.2.1 (fmR (Lv d).1 i))) hRs9.1 (by omega) (at_w hz hi)
    obtain ⟨s11, v11, c11, w11, k11⟩ := aT1_ex s10 (N := NC + 4) (by omega) 76 (nI (NC + 2)) (nI (D.1.2.2.2 (D.1.2.2.1 (fmR (Lv d).1 i)))) 0 (nI NC)
    have pD := pC2.lw u2 (LWM.rf _ _)
    have pE := pD.c1 c11 k11 (by omega)
    -- how the class's nodes stay
    have C10 : ∀ j r, 15 < j → j < 21 → r < NC + 4 → s11.2.1 j r = s9.2.1 j r := fun j r x y z => by
      rw [c11.2.2.1 j r x y z, u2.2.1 j (by omega)]; simp only [uA_21]; rw [if_neg (by omega)]
    have C8 : ∀ j r, 15 < j → j < 21 → r < NC + 3 → s11.2.1 j r = s8.2.1 j r := fun j r x y z => by
      rw [C10 j r x y (by omega), c9.2.2.1 j r x y z]; simp only [uA_21]; rw [if_neg (by omega)]
    have C7 : ∀ j r, 15 < j → j < 21 → r < NC + 2 → s11.2.1 j r = s7.2.1 j r := fun j r x y z => by rw [C8 j r x y (by omega), c8.2.2.1 j r x y z]
    have C6 : ∀ j r, 15 < j → j < 21 → r < NC + 1 → s11.2.1 j r = s6.2.1 j r := fun j r x y z => by rw [C7 j r x y (by omega), c7.2.2.1 j r x y z]
    have N0 : s11.2.1 16 NC = 104 := by rw [C6 16 NC (by decide) (by decide) (by omega)]; exact w6.1
    have N3 : s11.2.1 16 (NC + 3) = 104 := by rw [C10 16 (NC + 3) (by decide) (by decide) (by omega)]; exact w9.1
    have N3' : s10.2.1 16 (NC + 3) = 104 := by rw [← c11.2.2.1 16 (NC + 3) (by decide) (by decide) (by omega)]; exact N3
    have hSN : ∀ k, k < aR (Lv d).1 → sR (Lv d).1 k < NC := fun k hk => (hRR.2.2.2.2.2 k hk).1
    have up1 : ∀ (b k : Nat), k < aR (Lv d).1 → updN (sR (Lv d).1) (aR (Lv d).1) b k = sR (Lv d).1 k := fun b k hk => by unfold updN; rw [if_neg (by omega)]
    have up2 : ∀ b, updN (sR (Lv d).1) (aR (Lv d).1) b (aR (Lv d).1) = b := fun b => by unfold updN; rw [if_pos rfl]
    -- the row above
    have hRd := hRR.gr (Nat.lt_succ_self d) pD.2.2.1.1 pD.2.2.1.2 gd.1 (show NC ≤ NC + 3 + 1 by omega) (show NR ≤ NR' + 4 + 1 by omega)
    have hRM9 : RM m9 (d + 1) _ _ _ _ _ _ := d4.keep (s' := m9) (fun j x y => by rw [G5.2.1 j (by omega), fm.2.1 j (by omega) (by omega) (by omega), g4.2.1 j (by omega), t6.2.1 j (by omega)])
    have hRn := hRd.next (S' := updN (sR (Lv d).1) (aR (Lv d).1) (NC + 3)) u4 hRM9 (by have := gd.1; omega) (Or.inr ⟨rfl, by rw [up2]; omega, by rw [up2]; exact N3', fun i' hi' => by rw [up2]; have := (hRR.2.2.2.2.1 i' hi').2.2.1; omega⟩) (fun k hk => up1 _ k hk)
    have hRn2 := hRn.gr (Nat.lt_succ_self _) (c11.kg (d + 2)) (KGM.rf _ _ _) (Nat.le_refl _) (show NC + 3 + 1 ≤ NC + 4 + 1 by omega) (Nat.le_refl _)
    -- the term
    have kE := pE.2.2.1
    have b0 : TTx s11 m9 D2.1.1 (tcR (Lv d).1 i) r (aR (Lv d).1) (sR (Lv d).1) := by
      refine TTx.kg (e := 0) (NC := NC) (NR := NR') t7 gd.1 (fun _ _ => rfl) (kE.1.lo (Nat.zero_le _)) ?_ htc t4
      exact ((g4.kg 0).tr (fm.kg 0 NR') (Nat.le_refl _)).tr (G5.kg 0) (Nat.le_succ _)
    have GMv : ∀ j, 13 < j → j < 19 → m9.2.1 j NR' = m4.2.1 j NR' := fun j x y => by rw [G5.2.2.1 j NR' x y (by omega), fm.2.1 j (by omega) (by omega) (by omega)]
    have b1 : TTx s11 m9 D2.1.1 (tcR (Lv d).1 i) NR' (aR (Lv d).1 + 1) (updN (sR (Lv d).1) (aR (Lv d).1) NC) := b0.in1 (by omega) (by omega) (Nat.le_succ _) (by rw [GMv 14 (by decide) (by decide)]; exact r4.1) (by rw [GMv 15 (by decide) (by decide)]; exact r4.2.1) (by rw [GMv 16 (by decide) (by decide)]; exact r4.2.2.1) t4 (fun k hk => up1 _ k hk) (fun k x y => by rw [show k = aR (Lv d).1 by omega, up2]; omega)
    have b2 : TTx s11 m9 D2.1.1 NC (NR' + 1) (aR (Lv d).1 + 1 + 1) (updN (updN (sR (Lv d).1) (aR (Lv d).1) NC) (aR (Lv d).1 + 1) 50000) := TTx.hyp (k := aR (Lv d).1) (by omega) (by omega) (by omega) (by rw [G6.2.2.1 14 (NR' + 1) (by decide) (by decide) (by omega)]; exact r6.1) N0 (by omega) (by rw [G6.2.2.1 15 (NR' + 1) (by decide) (by decide) (by omega)]; exact r6.2.1) (by
      show NC = if aR (Lv d).1 = aR (Lv d).1 + 1 then _ else _
      rw [if_neg (by omega), up2])
    have b3 : TTx s11 m9 D2.1.1 (NC + 1) (NR' + 2) (aR (Lv d).1 + 1) (updN (sR (Lv d).1) (aR (Lv d).1) NC) := TTx.lam (b := 50000) (f := D.1.2.2.1 (D.1.2.2.1 (fmR (Lv d).1 i))) (c1 := NC) (r1 := NR' + 1) (by omega) (by omega) (by omega) (by rw [G7.2.2.1 14 (NR' + 2) (by decide) (by decide) (by omega)]; exact r7.1) (by rw [C7 16 (NC + 1) (by decide) (by decide) (by omega)]; exact w7.1) (by have := gd.1; omega) (by rw [C7 18 (NC + 1) (by decide) (by decide) (by omega)]; exact w7.2.2.1) (by rw [G7.2.2.1 15 (NR' + 2) (by decide) (by decide) (by omega)]; exact r7.2.1) (by omega) (by rw [C7 17 (NC + 1) (by decide) (by decide) (by omega)]; exact w7.2.1) (by omega) (by rw [G7.2.2.1 16 (NR' + 2) (by decide) (by decide) (by omega)]; exact r7.2.2.1) (Or.inr ⟨by rw [C7 20 (NC + 1) (by decide) (by decide) (by omega)]; exact w7.2.2.2.2, rfl⟩) b2
    have b4 : TTx s11 m9 D2.1.1 (NC + 2) (NR' + 3) (aR (Lv d).1 + 1) (updN (sR (Lv d).1) (aR (Lv d).1) NC) := TTx.two (k := 65) (by omega) (by omega) (by omega) (by decide) (by rw [G8.2.2.1 14 (NR' + 3) (by decide) (by decide) (by omega)]; exact r8.1) (by rw [C8 16 (NC + 2) (by decide) (by decide) (by omega)]; exact w8.1) (by omega) (by rw [C8 17 (NC + 2) (by decide) (by decide) (by omega)]; exact w8.2.1) (by omega) (by rw [G8.2.2.1 16 (NR' + 3) (by decide) (by decide) (by omega)]; exact r8.2.2.1) (by omega) (by rw [C8 18 (NC + 2) (by decide) (by decide) (by omega)]; exact w8.2.2.1) (by omega) (by rw [G8.2.2.1 17 (NR' + 3) (by decide) (by decide) (by omega)]; exact r8.2.2.2.1) b1 b3
    have b5 : TTx s11 m9 D2.1.1 (NC + 4) (NR' + 4) (aR (Lv d).1) (sR (Lv d).1) := TTx.lam (b := NC) (by omega) (by omega) (by omega) r9.1 w11.1 (by have := gd.1; omega) w11.2.2.1 r9.2.1 (by omega) w11.2.1 (by omega) r9.2.2.1 (Or.inl ⟨w11.2.2.2.2, by omega, N0, fun k hk => by have := hSN k hk; omega⟩) b4
    have b6 : TTx s11 m9 D2.1.1 (NC + 4) (NR' + 4) (aR (Lv d).1) (updN (sR (Lv d).1) (aR (Lv d).1) (NC + 3)) := b5.gr (Nat.le_refl _) (fun k hk => up1 _ k hk) (GC.rf (NC + 5) _) (GM.rf (NR' + 5) _) (by omega) (by omega)
    have z17 : s11.1 17 = nI mo := by rw [c11.1 17 (by decide), u3]; show s9.1 17 = _; rw [c9.1 17 (by decide)]; show s8.1 17 = _; rw [c8.1 17 (by decide), c7.1 17 (by decide), c6.1 17 (by decide)]; exact x17
    have z32 : s11.2.1 32 d = nI i := by
      rw [c11.2.1 32 (by decide), u2.2.1 32 (by decide)]; simp only [uA_21, if_neg (show ¬ (32 : Nat) = 34 by decide)]; rw [c9.2.1 32 (by decide)]; simp only [uA_21, if_true, upd_j, nI_cl (show d < 2 ^ 31 by omega)]
    have z34 : s11.2.1 34 d = nI (NC + 3) := by
      rw [c11.2.1 34 (by decide), u2.2.1 34 (by decide)]; simp only [uA_21, if_true, upd_j, nI_cl (show d < 2 ^ 31 by omega)]
    rw [hypC q16 (by omega), v6, Option.bind_some]
    simp only []
    rw [(fAtC hR6 (by omega) hi).2, Option.bind_some]
    simp only []
    rw [lamC k6 (by omega), v7, Option.bind_some]
    simp only []
    rw [twoC k7 (by omega), v8, Option.bind_some]
    simp only []
    rw [(keep42 hd (nI i)).2.1, Option.bind_some, hypC (by exact k8) (by omega), v9, Option.bind_some]
    simp only []
    rw [(keep42 hd (nI (NC + 3))).2.2.2, Option.bind_some, u1, Option.bind_some, lamC (by rw [u3]; exact k9) (by omega), v11, Option.bind_some]
    simp only []
    rcases PRG.come (Lv := Lv) hn pE hd hRn2 z17 x22 hS.2.2.2.2.2.2.2 hf' (k := aR (Lv d).1) (show aR (Lv d).1 ≤ aR (Lv d).1 + 1 by omega) (fun z h1 h2 => by
      have h2 : z < aR (Lv d).1 + 1 := h2
      show NBx s11 (NC + 4) (updN (sR (Lv d).1) (aR (Lv d).1) (NC + 3) z)
      rw [show z = aR (Lv d).1 by omega, up2]
      exact Or.inr ⟨w11.1, by rw [w11.2.2.2.2]; exact fun e => by have := nI_inj (by omega) (by omega) e; omega, NC + 2, w11.2.1, by omega⟩) (Nat.lt_succ_self (NC + 4)) (Nat.lt_succ_self (NR' + 4)) b6 with ⟨R2, s12, m10, mo2, y1, y2, y3, y4, y5, y6, y7, y8, y9, y10, y11, y12, y13⟩ | ⟨y1, y2, y3⟩
    · rw [y1, y2, Option.bind_some, Option.bind_some]
      simp only []
      rw [if_neg (show ¬ (1 : Int32) = 0 by decide), if_neg (show ¬ (1 : Int32) = 0 by decide), (kept42 hd).2.2.2, Option.bind_some]
      simp only []
      have y34 : s12.2.1 34 d = nI (NC + 3) := by rw [y9.2.1 34 (by decide)]; exact z34
      have y16 : s12.2.1 16 (NC + 3) = 104 := by rw [y9.2.1 16 (by decide)]; exact N3
      obtain ⟨m11, l11, g11, r11, i11⟩ := tM_ex m10 (R := NR' + 4 + 1) (by omega) 72 (nI (aR (Lv d).1)) (-1) (-1) (-1)
      have pF := y3.m1 g11 i11 (by omega)
      have hR4 := y4.gr (Nat.lt_succ_self _) (KGC.rf (d + 2) _ s12) (g11.kg (d + 2)) (Nat.le_refl _) (Nat.le_refl _) (Nat.le_succ (NR' + 4 + 1))
      have ht : TTx s12 m11 D2.1.1 (NC + 3) (NR' + 4 + 1) (aR (Lv d).1 + 1) (sR R2) := TTx.hyp (k := aR (Lv d).1) (by omega) (by omega) (by omega) r11.1 y16 (by omega) r11.2.1 (by rw [y6]; exact (up2 _).symm)
      rw [y34, hypM y3.2.2.2.2.2.2.1.2 (by omega), l11, Option.bind_some]
      simp only []
      rcases PRG.come (Lv := Lv) hn pF hd hR4 y11 (by rw [g11.1 22 (by decide)]; exact y12) y13 (f := D.1.2.2.1 (D.1.2.2.1 (fmR (Lv d).1 i))) (by have := gd.1; omega) (k := aR (Lv d).1 + 1) (by rw [y5]; exact Nat.le_refl _) (fun k h1 h2 => absurd h2 (by rw [y5]; exact Nat.not_lt.mpr h1)) (show NC + 3 < NC + 4 + 1 by omega) (Nat.lt_succ_self (NR' + 4 + 1)) ht with ⟨R3, s13, m12, mo3, x1, x2, x3, x4, x5, x6, x7, x8, x9, x10, x11, x12, x13⟩ | ⟨x1, x2, x3⟩
      · rw [x1, x2, Option.bind_some, Option.bind_some]
        simp only []
        rw [if_neg (show ¬ (1 : Int32) = 0 by decide), if_neg (show ¬ (1 : Int32) = 0 by decide), (waitC hd 8).2.2, Option.bind_some]
        unfold f_X12_needs_272
        rw [if_neg (show ¬ (1 : Int32) = 0 by decide), bind_eta]
        have M' : ∀ j, 24 < j → m12.2.1 j = m9.2.1 j := fun j hj => by rw [x10.2.1 j (by omega), g11.2.1 j (by omega), y10.2.1 j (by omega)]
        have S' : ∀ j, 24 < j → s13.2.1 j = s11.2.1 j := fun j hj => by rw [x9.2.1 j (by omega), y9.2.1 j (by omega)]
        refine nest_fin h hi x3 x11 x12 x13 (by omega) (by omega) (by rw [M' 25 (by decide)]; exact h25) (by rw [M' 26 (by decide)]; exact h26) (by rw [S' 32 (by decide)]; exact z32) (b := NC + 3) (by rw [S' 34 (by decide)]; exact z34) (by omega) (by rw [x9.2.1 16 (by decide)]; exact y16) ⟨fun k hk => by have := hSN k hk; omega, fun i' hi' => by have := (hRR.2.2.2.2.1 i' hi').2.2.1; omega⟩ x4 (by rw [(gd.2.1 _ hf).1]; exact h5) (by rw [(gd.2.1 _ hf).2.1, (gd.2.1 _ hp).1]; exact h55) (x5.trans y5) (x6.trans y6) (Nat.le_trans y7 x7) (fun j hj => ?_)
        rw [x8 j (Nat.lt_of_lt_of_le hj y7)]; exact y8 j hj
      · rw [x1, x2, Option.bind_some, Option.bind_some]
        simp only [if_true]
        rw [(waitC hd 8).2.1, Option.bind_some]
        unfold f_X12_needs_272
        rw [if_pos rfl]
        exact x3
    · rw [y1, y2, Option.bind_some, Option.bind_some]
      simp only [if_true]
      rw [(waitC hd 8).2.1, Option.bind_some]
      unfold f_X12_needs_272
      rw [if_pos rfl]
      exact y3
