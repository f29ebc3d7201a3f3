/-! ===== prove: the givens come ===== -/
def VC (s s' : StT) : Prop := (∀ j, j ≠ 16 → j ≠ 17 → s'.1 j = s.1 j) ∧ (∀ j, (j < 16 ∨ 24 < j) → s'.2.1 j = s.2.1 j) ∧ s'.2.2 = s.2.2
def VM (s s' : StT) : Prop := (∀ j, j ≠ 18 → j ≠ 22 → j ≠ 24 → s'.1 j = s.1 j) ∧ (∀ j, (j < 14 ∨ 24 < j) → s'.2.1 j = s.2.1 j) ∧ s'.2.2 = s.2.2
def GVN (D : HD) (g gn i z mo : Nat) (fm tc md : Nat → Nat) (s0 m0 sC sM : StT) : Prop := HS D sC sM ∧ sC.1 16 = nI i ∧ sM.1 18 = nI i ∧ RC sC 0 z fm tc g ∧ RM sM 0 z fm tc md g gn ∧ z ≤ i ∧ (∀ j, j < z → fm j < D.1.1 ∧ tc j < i ∧ md j = gn) ∧ (∀ k, k < i → (sC.2.1 16 k = 104 ∧ sC.2.1 17 k = nI k) ∧ sM.2.1 14 k = 72 ∧ sM.2.1 15 k = nI k) ∧ (sC.1 17 = nI mo ∧ sM.1 22 = nI mo ∧ mo ≤ 60) ∧ VC s0 sC ∧ VM m0 sM
theorem givens2 {n : Nat} (hn : 100000 ≤ n) {D : HD} {g gn : Nat} {gv : Nat → Nat} {s0 m0 : StT} (hgn : gn ≤ 20) (g16 : m0.1 16 = nI gn) (hg : ∀ i, i < gn → s0.2.1 0 i = nI (gv i) ∧ m0.2.1 9 i = nI (gv i) ∧ gv i < D.1.1) : ∀ (k i fu fu' z mo : Nat) (fm tc md : Nat → Nat) (sC sM : StT), i + k = gn → k < fu → k < fu' → GVN D g gn i z mo fm tc md s0 m0 sC sM →
    ∃ (z' mo' : Nat) (fm' tc' md' : Nat → Nat) (s m : StT), GVN D g gn gn z' mo' fm' tc' md' s0 m0 s m ∧ f_X5_run_1_51 n fu sC (nI gn) (nI i) = f_X5_run_1_101 n n s 0 2 0 ∧ f_X12_prove_88 n fu' sM (nI i) = ((f_X12_search n m).bind fun q126 => (some (((uF (uF (uF q126.2 28 q126.1) 27 ((uF q126.2 28 q126.1).1 25)) 29 ((uF (uF q126.2 28 q126.1) 27 ((uF q126.2 28 q126.1).1 25)).1 26)).1 28), (uF (uF (uF q126.2 28 q126.1) 27 ((uF q126.2 28 q126.1).1 25)) 29 ((uF (uF q126.2 28 q126.1) 27 ((uF q126.2 28 q126.1).1 25)).1 26))))) := by
  intro k
  induction k with
  | zero =>
    intro i fu fu' z mo fm tc md sC sM hi h1 h2 h
    obtain ⟨fu, rfl⟩ := Nat.exists_eq_succ_of_ne_zero (show fu ≠ 0 by omega)
    obtain ⟨fu', rfl⟩ := Nat.exists_eq_succ_of_ne_zero (show fu' ≠ 0 by omega)
    have hi : i = gn := by omega
    rw [hi] at h ⊢
    have e16 : sM.1 16 = nI gn := (h.2.2.2.2.2.2.2.2.2.2.1 16 (by decide) (by decide) (by decide)).trans g16
    refine ⟨z, mo, fm, tc, md, sC, sM, h, ?_, ?_⟩
    · rw [f_X5_run_1_51, if_pos (Int32.le_refl _)]
    · rw [f_X12_prove_88, e16, if_pos (Int32.le_refl _)]
  | succ k ih =>
    intro i fu fu' z mo fm tc md sC sM hi h1 h2 h
    obtain ⟨fu, rfl⟩ := Nat.exists_eq_succ_of_ne_zero (show fu ≠ 0 by omega)
    obtain ⟨fu', rfl⟩ := Nat.exists_eq_succ_of_ne_zero (show fu' ≠ 0 by omega)
    obtain ⟨a1, a2, a3, a4, a5, a6, a7, a8, ⟨a9, a10, a11⟩, a12, a13⟩ := h
    have hlt : ¬ nI gn ≤ nI i := fun e => by have := (nI_leI (by omega) (by omega)).mp e; omega
    have h20 : ¬ (20 : Int32) ≤ nI i := fun e => by have := (nI_leI (a := 20) (by omega) (by omega)).mp e; omega
    have e16 : sM.1 16 = nI gn := (a13.1 16 (by decide) (by decide) (by decide)).trans g16
    have hgi := hg i (by omega)
    have hF := a1.2.2.1.2.1
    have eC0 : sC.2.1 0 i = nI (gv i) := by rw [a12.2.1 0 (by decide)]; exact hgi.1
    have eM9 : sM.2.1 9 i = nI (gv i) := by rw [a13.2.1 9 (by decide)]; exact hgi.2.1
    obtain ⟨s1, v1, c1, w1, k1⟩ := aT1_ex sC (N := i) (by omega) 104 (nI i) 0 0 (-1)
    obtain ⟨m1, l1, g1', r1, i1⟩ := tM_ex sM (R := i) (by omega) 72 (nI i) (-1) (-1) (-1)
    have hRC : RC s1 0 z fm tc g := a4.keep (fun j x y => c1.2.1 j (by omega))
    have hRM : RM m1 0 z fm tc md g gn := a5.keep (fun j x y => g1'.2.1 j (by omega))
    have hb : ∀ j, j < z → fm j < 100000 := fun j hj => by have := (a7 j hj).1; omega
    have x17 : s1.1 17 = nI mo := (c1.1 17 (by decide)).trans a9
    have x22 : m1.1 22 = nI mo := (g1'.1 22 (by decide)).trans a10
    have e16' : m1.1 16 = nI gn := (g1'.1 16 (by decide)).trans e16
    have cC := comesC (n := n) (c := i) hn hRC (by omega) hb (show gv i < 100000 by omega) x17 (by omega)
    have cM := comesM (n := n) (r := i) (m := gn) hn hRM (by omega) hb (show gv i < 100000 by omega) x22 (by omega)
    have hHS1 : HS D s1 m1 := a1.mv (c1.1 6 (by decide)) (c1.1 7 (by decide)) (fun j x y => c1.2.1 j (by omega)) (by rw [c1.2.2.2]) (g1'.1 0 (by decide)) (g1'.1 2 (by decide)) (fun j x => g1'.2.1 j (by omega))
    have vC1 : VC s0 s1 := ⟨fun j x y => (c1.1 j x).trans (a12.1 j x y), fun j x => by rw [c1.2.1 j (by omega)]; exact a12.2.1 j x, c1.2.2.2.trans a12.2.2⟩
    have vM1 : VM m0 m1 := ⟨fun j x y z => (g1'.1 j x).trans (a13.1 j x y z), fun j x => by rw [g1'.2.1 j (by omega)]; exact a13.2.1 j x, g1'.2.2.2.trans a13.2.2⟩
    have nd : ∀ q, q < i + 1 → (s1.2.1 16 q = 104 ∧ s1.2.1 17 q = nI q) ∧ m1.2.1 14 q = 72 ∧ m1.2.1 15 q = nI q := fun q hq => by
      by_cases c : q = i
      · rw [c]; exact ⟨⟨w1.1, w1.2.1⟩, r1.1, r1.2.1⟩
      · rw [c1.2.2.1 16 q (by decide) (by decide) (by omega), c1.2.2.1 17 q (by decide) (by decide) (by omega), g1'.2.2.1 14 q (by decide) (by decide) (by omega), g1'.2.2.1 15 q (by decide) (by decide) (by omega)]; exact a8 q (by omega)
    rw [f_X5_run_1_51, f_X12_prove_88, if_neg hlt, if_neg h20, e16, if_neg hlt, inB_nI (show i < 20 by omega) (by omega), if_pos rfl, if_pos rfl, nI_cl (show i < 2 ^ 31 by omega), eC0, eM9, hypC a2 (by omega), v1, Option.bind_some, hypM a3 (by omega), l1, Option.bind_some]
    simp only []
    rw [e16', show (0 : Int32) = nI 0 from rfl, cC, cM, nI_1]
    by_cases cp : (pix fm (gv i) z).isSome = true
    · rw [if_pos cp, if_pos cp, Option.bind_some, Option.bind_some]
      exact ih (i + 1) fu fu' z mo fm tc md s1 m1 (by omega) (by omega) (by omega) ⟨hHS1, k1, i1, hRC, hRM, by omega, fun j hj => ⟨(a7 j hj).1, by have := (a7 j hj).2.1; omega, (a7 j hj).2.2⟩, nd, ⟨x17, x22, a11⟩, vC1, vM1⟩
    · rw [if_neg cp, if_neg cp, if_neg (show ¬ z = 60 by omega), if_neg (show ¬ z = 60 by omega), Option.bind_some, Option.bind_some]
      obtain ⟨p1, p2, p3⟩ := cmC_row (f := gv i) (c := i) (mo := mo) hRC (by omega) (show z < 60 by omega)
      obtain ⟨q1, q2, q3, q4⟩ := cmM_row (f := gv i) (r := i) (m := gn) (mo := mo) hRM (by omega) (show z < 60 by omega)
      generalize cmC s1 0 z (gv i) i mo = s2 at p1 p2 p3
      generalize cmM m1 0 z (gv i) i gn mo = m2 at q1 q2 q3 q4
      refine ih (i + 1) fu fu' (z + 1) (if mo < z + 1 then z + 1 else mo) (updN fm z (gv i)) (updN tc z i) (updN md z gn) s2 m2 (by omega) (by omega) (by omega) ⟨?_, ?_, ?_, p1, q1, by omega, fun j hj => ?_, fun q hq => ?_, ⟨p3, q3, by split <;> omega⟩, ?_, ?_⟩
      · exact hHS1.mv (p2.1 6 (by decide)) (p2.1 7 (by decide)) (fun j x y => p2.2.1 j (by omega)) (by rw [p2.2.2.2.2]) (q2.1 0 (by decide) (by decide)) (q2.1 2 (by decide) (by decide)) (fun j x => q2.2.1 j (by omega))
      · exact (p2.1 16 (by decide)).trans k1
      · exact (q2.1 18 (by decide) (by decide)).trans i1
      · unfold updN
        by_cases c : j = z
        · rw [if_pos c, if_pos c, if_pos c]; exact ⟨hgi.2.2, by omega, rfl⟩
        · rw [if_neg c, if_neg c, if_neg c]
          have := a7 j (by omega)
          exact ⟨this.1, by omega, this.2.2⟩
      · rw [p2.2.1 16 (by decide), p2.2.1 17 (by decide), q2.2.1 14 (by decide), q2.2.1 15 (by decide)]; exact nd q hq
      · exact ⟨fun j x y => (p2.1 j y).trans (vC1.1 j x y), fun j x => by rw [p2.2.1 j (by omega)]; exact vC1.2.1 j x, p2.2.2.2.2.trans vC1.2.2⟩
      · exact ⟨fun j x y z => (q2.1 j y z).trans (vM1.1 j x y z), fun j x => by rw [q2.2.1 j (by omega)]; exact vM1.2.1 j x, q2.2.2.2.2.trans vM1.2.2⟩
