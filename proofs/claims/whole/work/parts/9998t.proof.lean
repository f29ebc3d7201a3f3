/-! ===== proof ===== -/
theorem chain30 {n gn : Nat} (hg : gn ≤ 20) : ∀ (k i fu : Nat) (st : StT) (x : Int32), i + k = gn → st.1 33 = nI gn → st.1 32 = nI i → CHn st i id i x → k < fu → ∃ (st' : StT) (x' : Int32), f_X12_proof_30 n fu st x (nI i) = ((f_X12_push n st' (2 : Int32) (st'.1 27) x' (st'.1 33)).bind fun q65 => ((f_X12_writeAll n q65).bind fun q69 => ((f_X12_written n q69).bind fun q73 => (some (q73.1, q73.2))))) ∧ CHn st' gn id gn x' ∧ st'.1 32 = nI gn ∧ AgTM st st' ∧ st'.1 15 = st.1 15 ∧ st'.1 31 = st.1 31 := by
  intro k
  induction k with
  | zero =>
    intro i fu st x hi h33 h32 hc hfu
    obtain ⟨fu, rfl⟩ := Nat.exists_eq_succ_of_ne_zero (show fu ≠ 0 by omega)
    have : i = gn := by omega
    subst this
    refine ⟨st, x, ?_, hc, h32, AgTM.rf _, rfl, rfl⟩
    rw [f_X12_proof_30, if_pos (by rw [h33]; exact Int32.le_refl _)]
  | succ k ih =>
    intro i fu st x hi h33 h32 hc hfu
    obtain ⟨fu, rfl⟩ := Nat.exists_eq_succ_of_ne_zero (show fu ≠ 0 by omega)
    have hc2 := chS_CH (dp := i) (show i < 60000 by omega) hc
    have ag := chS_ag st i x (nI i) (nI (i + 1))
    have e33 : (chS st i x (nI i) (nI (i + 1))).1 33 = nI gn := h33
    have e32 : (chS st i x (nI i) (nI (i + 1))).1 32 = nI (i + 1) := rfl
    have e15 : (chS st i x (nI i) (nI (i + 1))).1 15 = st.1 15 := rfl
    have e31 : (chS st i x (nI i) (nI (i + 1))).1 31 = st.1 31 := rfl
    have eS := chainM (n := n) (x := x) (y := nI i) (z := nI (i + 1)) h32 (by omega)
    generalize chS st i x (nI i) (nI (i + 1)) = s2 at hc2 ag e33 e32 e15 e31 eS
    have hid : ∀ z, z < i + 1 → id z = updN id i i z := fun z _ => by
      unfold updN
      by_cases e : z = i
      · rw [if_pos e]; exact e
      · rw [if_neg e]
    obtain ⟨st', x', a1, a2, a3, a4, a5, a6⟩ := ih (i + 1) fu s2 (nI i) (by omega) e33 e32 (hc2.mv (NU' := id) (Nat.le_refl _) (fun _ _ _ _ _ => rfl) hid) (by omega)
    refine ⟨st', x', ?_, a2, a3, ag.tr a4, a5.trans e15, a6.trans e31⟩
    rw [f_X12_proof_30, h33, if_neg (nI_ge (by omega) (by omega)), nI_1, eS, Option.bind_some]
    exact a1
def FPC (s s' : StT) : Prop := (∀ j, (j < 12 ∨ 15 < j) → s'.1 j = s.1 j) ∧ (∀ j, (j < 12 ∨ j = 16 ∨ 17 < j) → s'.2.1 j = s.2.1 j) ∧ s'.2.2 = s.2.2
def FPM (s s' : StT) : Prop := (∀ j, j ≠ 14 → j ≠ 15 → j ≠ 31 → j ≠ 32 → s'.1 j = s.1 j) ∧ (∀ j, j ≠ 7 → j ≠ 8 → (j < 33 ∨ 39 < j) → s'.2.1 j = s.2.1 j) ∧ s'.2.2 = s.2.2
theorem op_proof {n : Nat} (hn : 500000000 ≤ n) {D : HD} {sC sM : StT} {wn : Nat} (hH : HS D sC sM) (hS : SR D sC sM) (hW : RelW sC sM wn) : ∃ (r : Int32) (sC' sM' : StT) (wn' : Nat), f_X11_proof n sC = some (r, sC') ∧ f_X12_proof n sM = some (r, sM') ∧ RelW sC' sM' wn' ∧ SR D sC' sM' ∧ FPC sC sC' ∧ FPM sM sM' := by
  have hKT : KT = 486608110 := rfl
  unfold f_X11_proof f_X12_proof
  have h28 := hS.2.2.2.1
  rw [← h28]
  by_cases c1 : sC.1 22 = 1
  · have hS0 := hS
    obtain ⟨gn, c, r, hgn, e23, ⟨hc, N, hcN, hN, e16⟩, hr, e24, e27, ⟨hh, ht⟩, hg⟩ := hS.2.2.2.2.2.1 c1
    have e33 : sM.1 33 = nI gn := by rw [← hS.2.2.2.2.1]; exact e23
    obtain ⟨E, ⟨l1, hE⟩, hCC, hMM⟩ := both_write (n := n) (by omega) hH e16 hN hh c r gn id ht hcN id gn
    rw [if_pos c1, if_pos c1, e24, e23]
    -- the class
    generalize hs0 : uA (uF (uF sC 14 0) 15 (nI gn)) 15 (nI 0) (nI (4 * c)) = s0
    have A0 : AgTC sC s0 := by
      rw [← hs0]
      refine ⟨fun j x y => ?_, fun j _ _ z _ => ?_, fun i _ => rfl, rfl⟩
      · simp only [uA_1, uF_1]; rw [if_neg y, if_neg x]
      · simp only [uA_21, uF_2]; rw [if_neg z]
    have P0 : PgC s0 [] := by rw [← hs0]; exact ⟨rfl, fun i b _ h => by simp at h⟩
    have g := hCC 0 0 n s0 [] A0 P0 (by simp) (by simp) (by omega) (by simp) (by rw [← hs0]; rfl) (by rw [← hs0]; rfl) (fun k hk _ => by rw [← hs0]; exact (hg k hk).2) (by simp; exact hgn) (fun k hk => Nat.le_of_lt hk)
    rw [List.nil_append] at g
    obtain ⟨s1, a1, a2, a3, a4⟩ : ∃ s1, f_X10_putTerm_24_13 n n s0 (nI 0) (nI 0) = some s1 ∧ AgTC sC s1 ∧ ((E.length ≤ 8000 ∧ PgC s1 E) ∨ (8000 < E.length ∧ s1.1 14 = nI 8001)) ∧ ∀ k, k < gn → s1.2.1 17 k = sC.2.1 17 k := by
      have s017 : s0.2.1 17 = sC.2.1 17 := by rw [← hs0]; rfl
      rcases g with ⟨g1, s', fu', tu', g2, g3, g4, g5, g6, g7, g8, g9⟩ | ⟨g1, s', g2, g3, g4, g5⟩
      · obtain ⟨fu', rfl⟩ := Nat.exists_eq_succ_of_ne_zero (show fu' ≠ 0 by omega)
        refine ⟨s', ?_, g6, Or.inl ⟨g1, g3⟩, fun k hk => by rw [g9 k (by omega) (Or.inl ⟨k, hk, rfl⟩), s017]⟩
        rw [g2, f_X10_putTerm_24_13, if_neg (show ¬ (16000 : Int32) ≤ nI tu' from fun e => absurd ((nI_leI (a := 16000) (by omega) (by omega)).mp e) (by omega)), if_pos (show nI 0 - 1 < (0 : Int32) by decide)]
      · exact ⟨s', g2, g4, Or.inr ⟨g1, g3⟩, fun k hk => by rw [g5 k (by omega) (Or.inl ⟨k, hk, rfl⟩), s017]⟩
    have eC : f_X10_putTerm_24 n (uF (uF sC 14 0) 15 (nI gn)) (nI c) = some s1 := by
      unfold f_X10_putTerm_24
      rw [show (0 : Int32) = nI 0 from rfl, begin22 (by omega) (by omega), Option.bind_some]
      simp only []
      rw [show (0 : Int32) = nI 0 from rfl] at hs0
      rw [hs0]; exact a1
    -- the reference
    obtain ⟨m1, x, b1, b2, b3, b4, b5, b6⟩ := chain30 (n := n) hgn gn 0 n (uF (uF (uF sM 15 0) 31 0) 32 0) (-1) (by omega) e33 rfl rfl (by omega)
    have B0 : AgTM sM (uF (uF (uF sM 15 0) 31 0) 32 0) := ⟨fun j x y z => by simp only [uF_1]; rw [if_neg z, if_neg y, if_neg x], fun _ _ _ => rfl, rfl⟩
    have B1 := B0.tr b4
    have m27 : m1.1 27 = nI r := by rw [B1.1 27 (by decide) (by decide) (by decide)]; exact e27
    have m33 : m1.1 33 = nI gn := by rw [B1.1 33 (by decide) (by decide) (by decide)]; exact e33
    have m31 : m1.1 31 = nI 0 := b6
    have Q1 : PgM m1 [] := ⟨b5, fun i b _ h => by simp at h⟩
    have g2 := hMM 0 n gn (psh m1 0 2 (nI r) x (nI gn)) [] x (B1.tr (psh_ag ..).toT) (psh_pg Q1 ..) (by simp) (by simp) psh_31 (by simp; omega) (by rw [psh_ent (by omega), if_pos rfl]) b3 (by simp; exact hgn) (b2.mv (Nat.le_refl _) (fun j c y _ _ => by rw [psh_ch j y]) (fun _ _ => rfl)) (by simp; exact hgn) (fun k hk => Nat.le_of_lt hk)
    rw [List.nil_append] at g2
    obtain ⟨m2, d1, d2, d3⟩ : ∃ m2, f_X12_writeAll n (psh m1 0 2 (nI r) x (nI gn)) = some m2 ∧ AgTM sM m2 ∧ ((E.length ≤ 8000 ∧ PgM m2 E) ∨ (8000 < E.length ∧ ∃ m, m2.1 15 = nI m ∧ 8000 < m ∧ m ≤ 8100)) := by
      unfold f_X12_writeAll
      rcases g2 with ⟨q1, s', fu', cn', q2, q3, q4, q5, q6, q7, q8, q9, q10, q11⟩ | ⟨q1, s', m, q2, q3, q4, q5, q6⟩
      · obtain ⟨fu', rfl⟩ := Nat.exists_eq_succ_of_ne_zero (show fu' ≠ 0 by omega)
        refine ⟨s', ?_, q6, Or.inl ⟨q1, q3⟩⟩
        rw [q2, f_X12_writeAll_0, q4, if_pos (by decide)]
      · exact ⟨s', q2, q6, Or.inr ⟨q1, m, q3, q4, q5⟩⟩
    obtain ⟨rr, s2, m3, wn', z1, z2, z3, z4, z5⟩ := page_end (n := n) (by omega) hW hE a3 d3 (a2.1 13 (by decide) (by decide)) (a2.2.1 12 (by decide) (by decide) (by decide) (by decide)) (d2.1 14 (by decide) (by decide) (by decide)) (d2.2.1 7 (by decide) (by decide))
    refine ⟨rr, s2, m3, wn', ?_, ?_, z3, ?_, ?_, ?_⟩
    · unfold f_X10_wholeTerm_24
      rw [eC, Option.bind_some, z1, Option.bind_some, Option.bind_some]
    · rw [show (0 : Int32) = nI 0 from rfl] at b1 ⊢
      rw [b1, m27, m33, pushM m31 (by omega), Option.bind_some, d1, Option.bind_some, z2, Option.bind_some]
    · refine hS0.mv (Nat.le_refl _) (fun j x y _ => ?_) (fun j hj => ?_) (fun i hi => ?_) (fun j hj => ?_) (fun j hj => ?_)
      · rw [z4.1 j (by omega) (by omega)]; exact a2.1 j (by omega) (by omega)
      · rw [z4.2.1 j (by omega) (by omega)]; exact a2.2.1 j (by omega) (by omega) (by omega) (by omega)
      · rw [z4.2.1 17 (by omega) (by omega)]
        rcases hi with hi | ⟨_, gn', e1, e2, e3⟩
        · exact a2.2.2.1 i hi
        · rw [e23] at e1
          have := nI_inj (by omega) (by omega) e1
          exact a4 i (by omega)
      · rw [z5.1 j (by omega)]; exact d2.1 j (by omega) (by omega) (by omega)
      · rw [z5.2.1 j (by omega)]; exact d2.2.1 j (by omega) (by omega)
    · exact ⟨fun j hj => (z4.1 j (by omega) (by omega)).trans (a2.1 j (by omega) (by omega)), fun j hj => (z4.2.1 j (by omega) (by omega)).trans (a2.2.1 j (by omega) (by omega) (by omega) (by omega)), z4.2.2.trans a2.2.2.2⟩
    · exact ⟨fun j x y z w => (z5.1 j x).trans (d2.1 j y z w), fun j x y z => (z5.2.1 j x).trans (d2.2.1 j y z), z5.2.2.trans d2.2.2⟩
  · rw [if_neg c1, if_neg c1]
    exact ⟨-3, sC, sM, wn, rfl, rfl, hW, hS, ⟨fun _ _ => rfl, fun _ _ => rfl, rfl⟩, ⟨fun _ _ _ _ _ => rfl, fun _ _ _ _ => rfl, rfl⟩⟩
