/-! ===== one of LEFT is reduced: what leads from false, from true, from a variable ===== -/
theorem kind01 {t : FT} {vn f : Nat} (hw : WFt t vn) (hf : f < t.1) : (t.2.1 f = 0 ↔ f = 0) ∧ (t.2.1 f = 1 ↔ f = 1) := by
  by_cases c0 : f = 0
  · rw [c0, hw.2.2.1.1]; exact ⟨⟨fun _ => rfl, fun _ => rfl⟩, ⟨fun e => absurd e (by decide), fun e => absurd e (by decide)⟩⟩
  · by_cases c1 : f = 1
    · rw [c1, hw.2.2.2.1.1]; exact ⟨⟨fun e => absurd e (by decide), fun e => absurd e (by decide)⟩, ⟨fun _ => rfl, fun _ => rfl⟩⟩
    · have := hw.2.2.2.2.2.1 f (by omega) hf
      refine ⟨⟨fun e => ?_, fun e => absurd e c0⟩, ⟨fun e => ?_, fun e => absurd e c1⟩⟩ <;> (rcases this with z | z <;> omega)
/-- both sides lay the row less what leads, and come to its parts -/
theorem lead_ctx {n : Nat} (hn : 100000 ≤ n) {D : HD} {Lv : Nat → LD} {d NC NR nC nM mo i : Nat} {sC sM : StT} (h : PRE D Lv d NC NR nC nM mo sC sM) (hi : i < zz (Lv d).1) (h5 : D.1.2.1 (fmR (Lv d).1 i) = 5) :
    ∃ s2 m2, PRG D d NC NR nC nM sC sM D NC NR s2 m2 ∧ RR s2 m2 D.1.1 NC NR d (Lv d).1 ∧ (∃ R', RR s2 m2 D.1.1 NC NR (d + 1) R' ∧ aR R' = aR (Lv d).1 ∧ sR R' = sR (Lv d).1 ∧ zz R' = nz (zz (Lv d).1) i ∧ ∀ j, fmR R' j = fmR (Lv d).1 (skp i j)) ∧ m2.2.1 25 d = nI 1 ∧ s2.1 17 = nI mo ∧ m2.1 22 = nI mo ∧ f_X5_reduce n sC (nI d) (nI i) = f_X5_reduceImplication n s2 (nI d) (nI (fmR (Lv d).1 i)) (nI (tcR (Lv d).1 i)) ∧ f_X12_going n sM (nI d) (nI i) = ((f_X12_leading n m2 (nI d) (nI (d + 1)) (nI i) (nI (fmR (Lv d).1 i)) (nI (aR (Lv d).1))).bind fun q226 => (f_X12_going_231 n q226.2 q226.1)) := by
  have hS := h.1
  have hRR := h.2.2.1
  have hd := h.2.2.2.2.2.2.1
  obtain ⟨s2, c1, c2, c3, c4, c5, ec⟩ := redC hn h hi
  obtain ⟨m2, d1, d2, d3, d4, d5, em⟩ := goM hn h hi (by omega)
  have p0 := ((PRG.start (d := d) hS).lw c2 d2).mc 25 (by decide) (by omega) 1
  have hR1 := hRR.gr (Nat.lt_succ_self d) p0.2.2.1.1 p0.2.2.1.2 (Nat.le_refl _) (Nat.le_refl _) (Nat.le_refl _)
  have hR2 := hR1.next (S' := sR (Lv d).1) c4 (d4.keep (fun j x y => by simp only [uA_21]; rw [if_neg (by omega)])) hRR.2.2.1 (Or.inl rfl) (fun _ _ => rfl)
  refine ⟨s2, uA m2 25 (nI d) 1, p0, hR1, ⟨_, hR2, rfl, rfl, rfl, fun _ => rfl⟩, by simp only [uA_21, if_true, upd_j, nI_cl (show d < 2 ^ 31 by omega)]; rfl, by rw [c3]; exact hS.2.2.2.2.2.1, by show m2.1 22 = _; rw [d3]; exact hS.2.2.2.2.2.2.1, ?_, ?_⟩
  · rw [ec]
    simp only [h5]
    rw [if_neg (show ¬ nI 5 = (3 : Int32) by decide), if_neg (show ¬ nI 5 = (4 : Int32) by decide), if_pos (show nI 5 = (5 : Int32) by decide), bind_eta]
  · rw [em]
    simp only [h5]
    rw [if_neg (show ¬ nI 5 = (3 : Int32) by decide), if_pos (show nI 5 = (5 : Int32) by decide)]
/-- the end of a rule that adds one formula -/
theorem same_one {n : Nat} (hn : 100000 ≤ n) {D D1 : HD} {Lv : Nat → LD} {d NC NR nC nM mo NC1 NR1 mo1 i f c r : Nat} {sC sM s m : StT} {R' : RW} (h : PRE D Lv d NC NR nC nM mo sC sM) (p : PRG D d NC NR nC nM sC sM D1 NC1 NR1 s m) (b1 : NC1 ≤ NC + 8) (b2 : NR1 ≤ NR + 11) (hR : RR s m D1.1.1 NC1 NR1 (d + 1) R') (e1 : aR R' = aR (Lv d).1) (e2 : sR R' = sR (Lv d).1) (e3 : nz (zz (Lv d).1) i ≤ zz R') (e4 : ∀ j, j < nz (zz (Lv d).1) i → fmR R' j = fmR (Lv d).1 (skp i j)) (h25 : m.2.1 25 d = nI 1) (h17 : s.1 17 = nI mo1) (h22 : m.1 22 = nI mo1) (hmo : mo1 ≤ 60) (wv : D1.1.2.1 (fmR (Lv d).1 i) ≠ 2) (hf : f < D1.1.1) (hc : c < NC1) (hr : r < NR1) (ht : TTx s m D1.1.1 c r (aR (Lv d).1) (sR (Lv d).1)) :
    ∃ ok s' m', f_X6_comes n s (nI (d + 1)) (nI f) (nI c) = some (mI ok, s') ∧ f_X12_comes n m (nI (d + 1)) (nI f) (nI r) (nI (aR (Lv d).1)) = some (mI ok, m') ∧ OUT n D Lv d NC NR nC nM sC sM (f_X5_waitIf n s' (mI ok) (nI d) 0) (f_X12_going_231 n m' (mI ok)) := by
  have hd := h.2.2.2.2.2.2.1
  rcases PRG.come (Lv := Lv) hn p hd hR h17 h22 hmo hf (k := aR (Lv d).1) (by rw [e1]; exact Nat.le_refl _) (fun k h1 h2 => absurd h2 (by rw [e1]; exact Nat.not_lt.mpr h1)) hc hr (by rw [e2]; exact ht) with ⟨R2, s5, m5, mo2, q1, q2, q3, q4, q5, q6, q7, q8, q9, q10, q11, q12, q13⟩ | ⟨q1, q2, q3⟩
  · refine ⟨true, s5, m5, q1, q2, ?_⟩
    rw [show mI true = (1 : Int32) from rfl, (waitC hd 0).2.2]
    unfold f_X12_going_231
    rw [if_neg (by decide), bind_eta]
    refine same_fin (w := i) h q3 q11 q12 q13 b1 b2 ?_ q4 (Or.inr wv) (q5.trans e1) (fun k _ => by rw [q6, e2]) (Nat.le_trans e3 q7) (fun j hj => ?_)
    · rw [q10.2.1 25 (by decide)]; exact h25
    · rw [q8 j (Nat.lt_of_lt_of_le hj e3)]; exact e4 j hj
  · refine ⟨false, s, uF m 24 (-7), q1, q2, ?_⟩
    rw [show mI false = (0 : Int32) from rfl, (waitC hd 0).2.1]
    unfold f_X12_going_231
    rw [if_pos rfl]
    exact q3
theorem rule_lead012 {n : Nat} (hn : 100000 ≤ n) {D : HD} {Lv : Nat → LD} {d NC NR nC nM mo i : Nat} {sC sM : StT} (h : PRE D Lv d NC NR nC nM mo sC sM) (hi : i < zz (Lv d).1) (h5 : D.1.2.1 (fmR (Lv d).1 i) = 5) (ha : D.1.2.1 (D.1.2.2.1 (fmR (Lv d).1 i)) = 0 ∨ D.1.2.1 (D.1.2.2.1 (fmR (Lv d).1 i)) = 1 ∨ (D.1.2.1 (D.1.2.2.1 (fmR (Lv d).1 i)) = 2 ∧ ∃ j, pix (fmR (Lv d).1) (D.1.2.2.1 (fmR (Lv d).1 i)) (zz (Lv d).1) = some j)) : OUT n D Lv d NC NR nC nM sC sM (f_X5_reduce n sC (nI d) (nI i)) (f_X12_going n sM (nI d) (nI i)) := by
  have hS := h.1
  have hRR := h.2.2.1
  have hd := h.2.2.2.2.2.2.1
  have hNC := h.2.2.2.2.2.2.2.1
  have hNR := h.2.2.2.2.2.2.2.2.1
  have hal := hRR.2.2.2.1
  obtain ⟨hf, _, htc, _, _⟩ := hRR.2.2.2.2.1 i hi
  have hw := hS.1.2.2.1
  have hl := hw.2.1
  have hlo := hw.lo hf (by omega)
  have hp : D.1.2.2.1 (fmR (Lv d).1 i) < D.1.1 := by omega
  have hkp := hw.bd hp
  have k01 := kind01 hw hp
  obtain ⟨s2, m2, p0, hR1, ⟨R', hR2, e1, e2, e3, e4⟩, m25, s17, m22, ec, em⟩ := lead_ctx hn h hi h5
  have hC2 := p0.2.2.2.2.2.1.1
  have hM2 := p0.2.2.2.2.2.1.2.1
  have hmf := hM2.2 _ hf
  have hmp := hM2.2 _ hp
  have e3' : nz (zz (Lv d).1) i ≤ zz R' := by rw [e3]; exact Nat.le_refl _
  rw [ec, em]
  unfold f_X5_reduceImplication f_X12_leading
  rw [firstOfF0 hC2 hf, Option.bind_some]
  simp only []
  rw [secondOfF0 hC2 hf, Option.bind_some]
  simp only []
  rw [kindOfF0 hC2 hp, Option.bind_some, inB_nI (show fmR (Lv d).1 i < 4200 by omega) (by omega), if_pos rfl, if_pos rfl, nI_cl (show fmR (Lv d).1 i < 2 ^ 31 by omega), hmf.2.1]
  simp only []
  rcases ha with ha | ha | ⟨ha, j, hj⟩
  · have h0 := k01.1.mp ha
    rw [ha, h0, if_neg (by decide), if_neg (by decide), if_neg (by decide), if_neg (by decide), if_pos (by decide), Option.bind_some, (waitC hd 0).1, Option.bind_some]
    unfold f_X12_going_231
    rw [if_neg (show ¬ (1 : Int32) = 0 by decide), bind_eta]
    exact same_fin (w := i) h p0 s17 m22 hS.2.2.2.2.2.2.2 (by omega) (by omega) m25 hR2 (Or.inr (by rw [h5]; decide)) e1 (fun k _ => by rw [e2]) e3' (fun j _ => e4 j)
  · have h1 := k01.2.mp ha
    obtain ⟨r, m3, NR', t1, t2, t3, t4, t5, t6, t7⟩ := termOfM (n := n) hR1 (by omega) hi p0.2.2.2.2.2.2.1.2 (by omega)
    rw [ha, h1, if_pos (by decide), if_neg (by decide), t1, Option.bind_some]
    simp only []
    rw [if_pos (by decide), unitC p0.2.2.2.2.2.2.1.1 (by omega), Option.bind_some, termM t5 (by omega), Option.bind_some]
    simp only []
    have gc := aT1_fr (s := s2) (N := NC) (by omega) 84 0 0 0 (-1)
    have rc := aT1_rows (s := s2) (N := NC) (by omega) 84 0 0 0 (-1)
    have e16 : (aT1 s2 NC 84 0 0 0 (-1)).1 16 = nI (NC + 1) := rfl
    generalize aT1 s2 NC 84 0 0 0 (-1) = s3 at gc rc e16 ⊢
    have gm := tM_fr (s := m3) (R := NR') (by omega) 84 0 (-1) (-1) (-1)
    have rm := tM_rows (s := m3) (R := NR') (by omega) 84 0 (-1) (-1) (-1)
    have e18 : (tM m3 NR' 84 0 (-1) (-1) (-1)).1 18 = nI (NR' + 1) := rfl
    generalize tM m3 NR' 84 0 (-1) (-1) (-1) = m4 at gm rm e18 ⊢
    rw [twoC e16 (by omega), Option.bind_some, termM e18 (by omega), Option.bind_some]
    simp only []
    have gc' := aT1_fr (s := s3) (N := NC + 1) (by omega) 65 (nI (tcR (Lv d).1 i)) (nI NC) 0 (-1)
    have rc' := aT1_rows (s := s3) (N := NC + 1) (by omega) 65 (nI (tcR (Lv d).1 i)) (nI NC) 0 (-1)
    have e16' : (aT1 s3 (NC + 1) 65 (nI (tcR (Lv d).1 i)) (nI NC) 0 (-1)).1 16 = nI (NC + 1 + 1) := rfl
    generalize aT1 s3 (NC + 1) 65 (nI (tcR (Lv d).1 i)) (nI NC) 0 (-1) = s4 at gc' rc' e16' ⊢
    have gm' := tM_fr (s := m4) (R := NR' + 1) (by omega) 65 0 (nI r) (nI NR') (-1)
    have rm' := tM_rows (s := m4) (R := NR' + 1) (by omega) 65 0 (nI r) (nI NR') (-1)
    have e18' : (tM m4 (NR' + 1) 65 0 (nI r) (nI NR') (-1)).1 18 = nI (NR' + 1 + 1) := rfl
    generalize tM m4 (NR' + 1) 65 0 (nI r) (nI NR') (-1) = m5 at gm' rm' e18' ⊢
    have p1 := ((((p0.c1 gc e16 (by omega)).c1 gc' e16' (by omega)).m1 t6 t5 t2).m1 gm e18 (by omega)).m1 gm' e18' (by omega)
    have hR3 := hR2.gr (Nat.lt_succ_self _) ((gc.kg (d + 2)).tr (gc'.kg (d + 2)) (Nat.le_succ NC)) (((t6.kg (d + 2)).tr (gm.kg (d + 2)) t2).tr (gm'.kg (d + 2)) (show NR ≤ NR' + 1 by omega)) (Nat.le_refl _) (show NC ≤ NC + 1 + 1 by omega) (show NR ≤ NR' + 1 + 1 by omega)
    have hin : TTx s4 m5 D.1.1 (tcR (Lv d).1 i) r (aR (Lv d).1) (sR (Lv d).1) := (t7.gr (Nat.le_refl _) (fun _ _ => rfl) gc gm htc t4).gr (Nat.le_refl _) (fun _ _ => rfl) gc' gm' (by omega) (by omega)
    have hun : TTx s4 m5 D.1.1 NC NR' (aR (Lv d).1) (sR (Lv d).1) := TTx.unit (by omega) (by omega) (by omega) (by rw [gm'.2.2.1 14 NR' (by decide) (by decide) (by omega)]; exact rm.1) (by rw [gc'.2.2.1 16 NC (by decide) (by decide) (by omega)]; exact rc.1)
    have ht : TTx s4 m5 D.1.1 (NC + 1) (NR' + 1) (aR (Lv d).1) (sR (Lv d).1) := TTx.two (k := 65) (by omega) (by omega) (by omega) (by decide) rm'.1 rc'.1 (by omega) rc'.2.1 (by omega) rm'.2.2.1 (by omega) rc'.2.2.1 (by omega) rm'.2.2.2.1 hin hun
    obtain ⟨ok, s', m', w1, w2, w3⟩ := same_one hn h p1 (by omega) (by omega) hR3 e1 e2 e3' (fun j _ => e4 j) (by rw [gm'.2.1 25 (by decide), gm.2.1 25 (by decide), t6.2.1 25 (by decide)]; exact m25) (by rw [gc'.1 17 (by decide), gc.1 17 (by decide)]; exact s17) (by rw [gm'.1 22 (by decide), gm.1 22 (by decide), t6.1 22 (by decide)]; exact m22) hS.2.2.2.2.2.2.2 (by rw [h5]; decide) (f := D.1.2.2.2 (fmR (Lv d).1 i)) (by omega) (Nat.lt_succ_self (NC + 1)) (Nat.lt_succ_self (NR' + 1)) ht
    rw [nI_1, hmf.2.2, w1, w2, Option.bind_some, Option.bind_some]
    simp only []
    rw [if_pos (show isZ (mI ok) = true by cases ok <;> rfl), Option.bind_some, bind_eta]
    exact w3
  · have hjz := pix_some hj
    obtain ⟨hfj, _, htj, _, _⟩ := hRR.2.2.2.2.1 j hjz.1
    have hb : ∀ i, i < zz (Lv d).1 → fmR (Lv d).1 i < 100000 := fun i hi => by have := (hRR.2.2.2.2.1 i hi).1; omega
    have hn0 : ¬ nI (D.1.2.2.1 (fmR (Lv d).1 i)) = (0 : Int32) := fun e => by
      have := k01.1.mpr (nI_inj (b := 0) (by omega) (by omega) e); omega
    have hn1 : ¬ nI (D.1.2.2.1 (fmR (Lv d).1 i)) = (1 : Int32) := fun e => by
      have := k01.2.mpr (nI_inj (b := 1) (by omega) (by omega) e); omega
    obtain ⟨r, m3, NR', t1, t2, t3, t4, t5, t6, t7⟩ := termOfM (n := n) hR1 (by omega) hi p0.2.2.2.2.2.2.1.2 (by omega)
    have hR1' := hR1.gr (Nat.lt_succ_self d) (KGC.rf (d + 1) NC s2) (t6.kg (d + 1)) (Nat.le_refl _) (Nat.le_refl _) t2
    obtain ⟨r2, m4, NR2, u1, u2, u3, u4, u5, u6, u7⟩ := termOfM (n := n) hR1' (by omega) hjz.1 t5 (by omega)
    rw [ha, if_neg (by decide), if_pos (by decide), if_neg hn0, t1, Option.bind_some]
    simp only []
    rw [if_neg hn1, inB_nI (show D.1.2.2.1 (fmR (Lv d).1 i) < 4200 by omega) (by omega), if_pos rfl, nI_cl (show D.1.2.2.1 (fmR (Lv d).1 i) < 2 ^ 31 by omega), t6.2.1 0 (by decide), hmp.1, ha, if_pos (by decide), ixC hn hR1.1 (by omega) hb (by omega), ixM hn hR1'.2.1 (by omega) hb (by omega), Option.bind_some, Option.bind_some, hj]
    simp only []
    rw [show oI (some j) = nI j from rfl, (fAtC hR1.1 (by omega) hjz.1).2, Option.bind_some, u1, Option.bind_some]
    simp only []
    rw [twoC p0.2.2.2.2.2.2.1.1 (by omega), Option.bind_some, termM u5 (by omega), Option.bind_some]
    simp only []
    have gc' := aT1_fr (s := s2) (N := NC) (by omega) 65 (nI (tcR (Lv d).1 i)) (nI (tcR (Lv d).1 j)) 0 (-1)
    have rc' := aT1_rows (s := s2) (N := NC) (by omega) 65 (nI (tcR (Lv d).1 i)) (nI (tcR (Lv d).1 j)) 0 (-1)
    have e16' : (aT1 s2 NC 65 (nI (tcR (Lv d).1 i)) (nI (tcR (Lv d).1 j)) 0 (-1)).1 16 = nI (NC + 1) := rfl
    generalize aT1 s2 NC 65 (nI (tcR (Lv d).1 i)) (nI (tcR (Lv d).1 j)) 0 (-1) = s4 at gc' rc' e16' ⊢
    have gm' := tM_fr (s := m4) (R := NR2) (by omega) 65 0 (nI r) (nI r2) (-1)
    have rm' := tM_rows (s := m4) (R := NR2) (by omega) 65 0 (nI r) (nI r2) (-1)
    have e18' : (tM m4 NR2 65 0 (nI r) (nI r2) (-1)).1 18 = nI (NR2 + 1) := rfl
    generalize tM m4 NR2 65 0 (nI r) (nI r2) (-1) = m5 at gm' rm' e18' ⊢
    have p1 := (((p0.c1 gc' e16' (by omega)).m1 t6 t5 t2).m1 u6 u5 u2).m1 gm' e18' (by omega)
    have hR3 := hR2.gr (Nat.lt_succ_self _) (gc'.kg (d + 2)) (((t6.kg (d + 2)).tr (u6.kg (d + 2)) t2).tr (gm'.kg (d + 2)) (show NR ≤ NR2 by omega)) (Nat.le_refl _) (Nat.le_succ NC) (show NR ≤ NR2 + 1 by omega)
    have hin : TTx s4 m5 D.1.1 (tcR (Lv d).1 i) r (aR (Lv d).1) (sR (Lv d).1) := (t7.gr (Nat.le_refl _) (fun _ _ => rfl) (GC.rf NC s2) u6 htc t4).gr (Nat.le_refl _) (fun _ _ => rfl) gc' gm' htc (by omega)
    have hin2 : TTx s4 m5 D.1.1 (tcR (Lv d).1 j) r2 (aR (Lv d).1) (sR (Lv d).1) := u7.gr (Nat.le_refl _) (fun _ _ => rfl) gc' gm' htj u4
    have ht : TTx s4 m5 D.1.1 NC NR2 (aR (Lv d).1) (sR (Lv d).1) := TTx.two (k := 65) (by omega) (by omega) (by omega) (by decide) rm'.1 rc'.1 htc rc'.2.1 (by omega) rm'.2.2.1 htj rc'.2.2.1 u4 rm'.2.2.2.1 hin hin2
    obtain ⟨ok, s', m', w1, w2, w3⟩ := same_one hn h p1 (by omega) (by omega) hR3 e1 e2 e3' (fun j _ => e4 j) (by rw [gm'.2.1 25 (by decide), u6.2.1 25 (by decide), t6.2.1 25 (by decide)]; exact m25) (by rw [gc'.1 17 (by decide)]; exact s17) (by rw [gm'.1 22 (by decide), u6.1 22 (by decide), t6.1 22 (by decide)]; exact m22) hS.2.2.2.2.2.2.2 (by rw [h5]; decide) (f := D.1.2.2.2 (fmR (Lv d).1 i)) (by omega) (Nat.lt_succ_self NC) (Nat.lt_succ_self NR2) ht
    rw [nI_1, hmf.2.2, w1, w2, Option.bind_some, Option.bind_some]
    simp only []
    rw [if_pos (show isZ (mI ok) = true by cases ok <;> rfl), Option.bind_some, bind_eta]
    exact w3
