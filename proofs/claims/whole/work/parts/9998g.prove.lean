/-! ===== prove ===== -/
/-- what both sides know of the latest search -/
def SR (D : HD) (sC sM : StT) : Prop := sC.1 20 = sM.1 20 ∧ sC.1 17 = sM.1 22 ∧ sC.1 21 = sM.1 23 ∧ sC.1 22 = sM.1 28 ∧ sC.1 23 = sM.1 33 ∧
  (sC.1 22 = 1 → ∃ gn c r, gn ≤ 20 ∧ sC.1 23 = nI gn ∧ (c < 30027 ∧ ∃ N, c < N ∧ N ≤ 30027 ∧ sC.1 16 = nI N) ∧ r < 60000 ∧ sC.1 24 = nI c ∧ sM.1 27 = nI r ∧ TTx sC sM D.1.1 c r gn id ∧ ∀ k, k < gn → sC.2.1 16 k = 104 ∧ sC.2.1 17 k = nI k) ∧
  (sC.1 22 = 0 → ∃ p bC bM nC nM mk, nC ≤ 2000 ∧ nM ≤ 2000 ∧ sC.1 18 = nI nC ∧ sM.1 30 = nI nM ∧ FW sC sM bC bM nC nM mk p ∧ sC.1 24 = nI p.2.1 ∧ sM.1 29 = nI p.2.2.2.2.1)
def PCC (s s' : StT) : Prop := (∀ j, (j < 6 ∨ (6 < j ∧ j < 16) ∨ 24 < j) → s'.1 j = s.1 j) ∧ (∀ j, (j < 2 ∨ (6 < j ∧ j < 16) ∨ 34 < j) → s'.2.1 j = s.2.1 j) ∧ s'.2.2 = s.2.2
def PMM (s s' : StT) : Prop := (∀ j, ((0 < j ∧ j < 18) ∨ j = 31 ∨ j = 32 ∨ 33 < j) → s'.1 j = s.1 j) ∧ (∀ j, ((2 < j ∧ j < 14) ∨ 32 < j) → s'.2.1 j = s.2.1 j) ∧ s'.2.2 = s.2.2
theorem prove_go {n : Nat} (hn : 100000 ≤ n) {D : HD} {sC sM : StT} {gn f lim : Nat} {gv : Nat → Nat} (hH : HS D sC sM) (hG : RelG sC sM gn gv D.1.1) (hf : f < D.1.1) (hl : lim ≤ 2000) :
    ∃ r sC' sM' D', f_X5_run_1 n sC (sC.1 28) (nI f) (nI lim) = some (r, sC') ∧ f_X12_prove_88 n n (uF (uA (uA (uA (uF (uF (uF (uF (uF (uF sM 18 0) 30 0) 20 0) 21 (nI lim)) 22 0) 23 0) 22 0 0) 23 0 (nI f)) 24 0 (nI gn)) 33 (nI gn)) 0 = some (r, sM') ∧ HS D' sC' sM' ∧ Gd D D' ∧ SR D' sC' sM' ∧ PCC sC sC' ∧ PMM sM sM' := by
  obtain ⟨hgn, g28, g16, ggv⟩ := hG
  generalize hs0 : uF (uA (uA (uF (uF (uF (uF (uF (uF (uF sC 19 (nI lim)) 20 0) 21 0) 23 (nI gn)) 24 (-1)) 16 0) 18 0) 23 0 0) 24 0 (nI f)) 17 0 = s0
  generalize hm0 : uF (uA (uA (uA (uF (uF (uF (uF (uF (uF sM 18 0) 30 0) 20 0) 21 (nI lim)) 22 0) 23 0) 22 0 0) 23 0 (nI f)) 24 0 (nI gn)) 33 (nI gn) = m0
  have cF : ∀ j, (j < 16 ∨ 24 < j) → s0.1 j = sC.1 j := fun j hj => by
    rw [← hs0]; simp only [uF_1, uA_1]; rw [if_neg (by omega), if_neg (by omega), if_neg (by omega), if_neg (by omega), if_neg (by omega), if_neg (by omega), if_neg (by omega), if_neg (by omega)]
  have cA : ∀ j, j ≠ 23 → j ≠ 24 → s0.2.1 j = sC.2.1 j := fun j x y => by
    rw [← hs0]; simp only [uF_2, uA_21]; rw [if_neg y, if_neg x]
  have mF : ∀ j, (j < 18 ∨ j = 31 ∨ j = 32 ∨ 33 < j) → m0.1 j = sM.1 j := fun j hj => by
    rw [← hm0]; simp only [uF_1, uA_1]; rw [if_neg (by omega), if_neg (by omega), if_neg (by omega), if_neg (by omega), if_neg (by omega), if_neg (by omega), if_neg (by omega)]
  have mA : ∀ j, (j < 22 ∨ 24 < j) → m0.2.1 j = sM.2.1 j := fun j x => by
    rw [← hm0]; simp only [uF_2, uA_21]; rw [if_neg (by omega), if_neg (by omega), if_neg (by omega)]
  have c2 : s0.2.2 = sC.2.2 := by rw [← hs0]; rfl
  have m2 : m0.2.2 = sM.2.2 := by rw [← hm0]; rfl
  have hH0 : HS D s0 m0 := hH.mv (cF 6 (by decide)) (cF 7 (by decide)) (fun j x y => cA j (by omega) (by omega)) (by rw [c2]) (mF 0 (by decide)) (mF 2 (by decide)) (fun j x => mA j (by omega))
  have G0 : GVN D f gn 0 0 0 (fun _ => 0) (fun _ => 0) (fun _ => 0) s0 m0 s0 m0 := by
    refine ⟨hH0, by rw [← hs0]; rfl, by rw [← hm0]; rfl, ⟨by rw [← hs0]; rfl, by omega, by rw [← hs0]; rfl, fun i hi => absurd hi (by omega)⟩, ⟨by rw [← hm0]; rfl, by omega, by rw [← hm0]; rfl, by rw [← hm0]; rfl, fun i hi => absurd hi (by omega)⟩, Nat.le_refl _, fun j hj => absurd hj (by omega), fun k hk => absurd hk (by omega), ⟨by rw [← hs0]; rfl, by rw [← hm0]; rfl, by omega⟩, ⟨fun _ _ _ => rfl, fun _ _ => rfl, rfl⟩, ⟨fun _ _ _ _ => rfl, fun _ _ => rfl, rfl⟩⟩
  obtain ⟨z, mo, fm, tc, md, s, m, ⟨a1, a2, a3, a4, a5, a6, a7, a8, ⟨a9, a10, a11⟩, a12, a13⟩, eC, eM⟩ := givens2 hn (D := D) (g := f) (gv := gv) (s0 := s0) (m0 := m0) hgn ((mF 16 (by decide)).trans g16) (fun i hi => by rw [cA 0 (by decide) (by decide), mA 9 (by decide)]; exact ggv i hi) gn 0 n n 0 0 _ _ _ s0 m0 (by omega) (by omega) (by omega) G0
  have hI : INL D (fun _ => ((z, fm, tc, tc, md, f, gn, id), (0, 0, 0, 0, 0), (0, 0, 0, 0), [])) 0 gn gn 0 0 mo 0 lim 0 0 s (uF m 19 (-1)) := by
    refine ⟨⟨a1.mv rfl rfl (fun _ _ _ => rfl) rfl rfl rfl (fun _ _ => rfl), a2, a3, (a12.1 18 (by decide) (by decide)).trans (by rw [← hs0]; rfl), (a13.1 30 (by decide) (by decide) (by decide)).trans (by rw [← hm0]; rfl), a9, a10, a11⟩, ⟨fun e he => absurd he (by omega), fun e e' x y => absurd y (by omega)⟩, ⟨a4, a5, hf, by show gn ≤ 20 + 0; omega, fun i hi => ?_, fun k hk => by
      have hk : k < gn := hk
      exact ⟨hk, (a8 k hk).1.1, fun i hi hm => by
        have hm : md i ≤ k := hm
        have hi : i < z := hi
        have := (a7 i hi).2.2
        omega⟩⟩, rfl, rfl, by omega, ⟨(a12.1 20 (by decide) (by decide)).trans (by rw [← hs0]; rfl), (a13.1 20 (by decide) (by decide) (by decide)).trans (by rw [← hm0]; rfl), (a12.1 19 (by decide) (by decide)).trans (by rw [← hs0]; rfl), (a13.1 21 (by decide) (by decide) (by decide)).trans (by rw [← hm0]; rfl), (a12.1 21 (by decide) (by decide)).trans (by rw [← hs0]; rfl), (a13.1 23 (by decide) (by decide) (by decide)).trans (by rw [← hm0]; rfl), by omega, hl, by omega⟩, rfl, by omega, by omega, by omega, by omega, Nat.le_refl _⟩
    have hi : i < z := hi
    obtain ⟨q1, q2, q3⟩ := a7 i hi
    have q4 := a8 (tc i) q2
    refine ⟨q1, by show md i ≤ gn; omega, q2, q2, ?_⟩
    show TTx s (uF m 19 (-1)) D.1.1 (tc i) (tc i) (md i) id
    rw [q3]
    exact TTx.hyp (k := tc i) (by omega) (by omega) (by omega) q4.2.1 q4.1.1 q2 q4.2.2 rfl
  obtain ⟨ans, D', s', m', b1, b2, ⟨b3, b4⟩, b5, b6, b7, b8, b9, b10, b11⟩ := decide2 hn hI
  refine ⟨ans, uF s' 22 ans, uF (uF (uF m' 28 ans) 27 (m'.1 25)) 29 (m'.1 26), D', ?_, ?_, b7.mv rfl rfl (fun _ _ _ => rfl) rfl rfl rfl (fun _ _ => rfl), b6, ⟨b8, b10, b9, rfl, ?_, fun x => ?_, fun x => ?_⟩, ⟨fun j hj => ?_, fun j hj => ?_, ?_⟩, ⟨fun j hj => ?_, fun j hj => ?_, ?_⟩⟩
  · unfold f_X5_run_1 f_X7_drop_T1 f_X4_drop f_X6_begin
    rw [g28, Option.bind_some, Option.bind_some, if_pos (show inB (0 : Int32) 201 = true by decide), if_pos (show inB (0 : Int32) 201 = true by decide), Option.bind_some, hs0, show (0 : Int32) = nI 0 from rfl, eC]
    exact run_dec2 hn b1
  · rw [show (0 : Int32) = nI 0 from rfl, eM, b2, Option.bind_some]
    rfl
  · show s'.1 23 = m'.1 33
    rw [b3.1 23 (by decide) (by decide) (by decide) (by decide) (by decide) (by decide) (by decide), a12.1 23 (by decide) (by decide), b5.1 33 (by decide) (by decide) (by decide) (by decide) (by decide) (by decide) (by decide) (by decide) (by decide) (by decide)]
    show s0.1 23 = m.1 33
    rw [a13.1 33 (by decide) (by decide) (by decide), ← hs0, ← hm0]
    rfl
  · have x : ans = 1 := x
    rcases b11 with e | e | ⟨_, c, r, q1, q2, q3, q4, q5⟩ | ⟨e, _⟩
    · rw [e] at x; exact absurd x (by decide)
    · rw [e] at x; exact absurd x (by decide)
    · refine ⟨gn, c, r, hgn, ?_, q1, q2, q3, q4, ?_, fun k hk => ?_⟩
      · show s'.1 23 = nI gn
        rw [b3.1 23 (by decide) (by decide) (by decide) (by decide) (by decide) (by decide) (by decide), a12.1 23 (by decide) (by decide), ← hs0]; rfl
      · obtain ⟨hh, q⟩ := q5
        exact ⟨hh, q.mv (Nat.le_refl _) (Nat.le_refl _) (fun _ _ => rfl) (fun _ _ _ _ => rfl) (fun _ _ _ => rfl) (fun _ _ _ _ _ => rfl)⟩
      · show s'.2.1 16 k = 104 ∧ s'.2.1 17 k = nI k
        rw [b4.2.2 16 k (by decide) (by decide) hk, b4.2.2 17 k (by decide) (by decide) hk]; exact (a8 k hk).1
    · rw [e] at x; exact absurd x (by decide)
  · have x : ans = 0 := x
    rcases b11 with e | e | ⟨e, _⟩ | ⟨_, p, bC, bM, nC, nM, mk, q1, q2, q3, q4, q5, q6, q7⟩
    · rw [e] at x; exact absurd x (by decide)
    · rw [e] at x; exact absurd x (by decide)
    · rw [e] at x; exact absurd x (by decide)
    · refine ⟨p, bC, bM, nC, nM, mk, q1, q2, q3, q4, ⟨?_, q5.2⟩, q6, q7⟩
      obtain ⟨hh, q⟩ := q5.1
      exact ⟨hh, q.mv (Nat.le_refl _) (fun _ _ _ _ _ => rfl) (fun _ _ _ => rfl) (fun _ _ _ _ _ => rfl) (fun _ _ _ _ => rfl)⟩
  · simp only [uF_1]
    rw [if_neg (by omega), b3.1 j (by omega) (by omega) (by omega) (by omega) (by omega) (by omega) (by omega), a12.1 j (by omega) (by omega), cF j (by omega)]
  · show s'.2.1 j = _
    rw [b3.2.1 j hj, a12.2.1 j (by omega), cA j (by omega) (by omega)]
  · show s'.2.2 = _
    rw [b3.2.2, a12.2.2, c2]
  · simp only [uF_1]
    rw [if_neg (by omega), if_neg (by omega), if_neg (by omega), b5.1 j (by omega) (by omega) (by omega) (by omega) (by omega) (by omega) (by omega) (by omega) (by omega) (by omega)]
    simp only [uF_1]
    rw [if_neg (by omega), a13.1 j (by omega) (by omega) (by omega), mF j (by omega)]
  · show m'.2.1 j = _
    rw [b5.2.1 j hj]
    show m.2.1 j = _
    rw [a13.2.1 j (by omega), mA j (by omega)]
  · show m'.2.2 = _
    rw [b5.2.2]
    show m.2.2 = _
    rw [a13.2.2, m2]
theorem op_prove {n : Nat} (hn : 100000 ≤ n) {D : HD} {sC sM : StT} {gn : Nat} {gv : Nat → Nat} (hH : HS D sC sM) (hG : RelG sC sM gn gv D.1.1) (x y : Int32) :
    ∃ r sC' sM' D', f_X11_prove n sC x y = some (r, sC') ∧ f_X12_prove n sM x y = some (r, sM') ∧ HS D' sC' sM' ∧ Gd D D' ∧ ((sC' = sC ∧ sM' = sM) ∨ (SR D' sC' sM' ∧ PCC sC sC' ∧ PMM sM sM')) := by
  unfold f_X11_prove f_X12_prove
  rcases both_has (n := n) hH.1.1 hH.2.1.1 hH.2.2.1.2.1 x with ⟨f, hf, rfl, e1, e2⟩ | ⟨e1, e2⟩
  · rw [e1, e2, Option.bind_some, Option.bind_some]
    simp only []
    rw [if_neg (show ¬ (1 : Int32) = 0 by decide), if_neg (show ¬ (1 : Int32) = 0 by decide)]
    by_cases hy : y < 0
    · rw [if_pos hy, if_pos hy]
      exact ⟨-2, sC, sM, D, rfl, rfl, hH, Gd.rf _, Or.inl ⟨rfl, rfl⟩⟩
    · rw [if_neg hy, if_neg hy]
      by_cases hy2 : y ≤ (2000 : Int32)
      · rw [if_pos hy2, if_pos hy2]
        obtain ⟨lim, hl, rfl⟩ := nI_of hy
        have hl2 := (nI_leI (b := 2000) hl (by omega)).mp hy2
        obtain ⟨r, s', m', D', a1, a2, a3, a4, a5⟩ := prove_go hn hH hG hf hl2
        refine ⟨r, s', m', D', ?_, ?_, a3, a4, Or.inr a5⟩
        · rw [a1, Option.bind_some]
        · rw [if_pos (show inB (0 : Int32) 201 = true by decide), if_pos (show inB (0 : Int32) 201 = true by decide), if_pos (show inB (0 : Int32) 201 = true by decide), ← a2, ← hG.2.2.1]
          rfl
      · rw [if_neg hy2, if_neg hy2]
        exact ⟨-2, sC, sM, D, rfl, rfl, hH, Gd.rf _, Or.inl ⟨rfl, rfl⟩⟩
  · rw [e1, e2, Option.bind_some, Option.bind_some]
    simp only [if_true]
    exact ⟨-1, sC, sM, D, rfl, rfl, hH, Gd.rf _, Or.inl ⟨rfl, rfl⟩⟩
