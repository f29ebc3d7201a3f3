/-! ===== write ===== -/
def FrWC (s s' : StT) : Prop := (∀ j, j ≠ 12 → j ≠ 13 → j ≠ 14 → s'.1 j = s.1 j) ∧ (∀ j, j ≠ 12 → j ≠ 13 → j ≠ 14 → s'.2.1 j = s.2.1 j) ∧ s'.2.2 = s.2.2
def FrWM (s s' : StT) : Prop := (∀ j, j ≠ 14 → j ≠ 15 → j ≠ 31 → s'.1 j = s.1 j) ∧ (∀ j, j ≠ 7 → j ≠ 8 → j ≠ 33 → j ≠ 34 → j ≠ 35 → j ≠ 36 → s'.2.1 j = s.2.1 j) ∧ s'.2.2 = s.2.2
theorem byteN : ∀ b, b < 128 → vp_nar .byte (nI b) = nI b := by decide +kernel
theorem finC {n : Nat} {s : StT} {D : List Nat} (hP : PgC s D) (hD : D.length ≤ 8000) : ∃ s', f_X10_finish n s = some (nI D.length, s') ∧ s'.1 13 = nI D.length ∧ s'.2.1 12 = s.2.1 13 ∧ (∀ j, j ≠ 12 → j ≠ 13 → s'.1 j = s.1 j) ∧ (∀ j, j ≠ 12 → j ≠ 13 → s'.2.1 j = s.2.1 j) ∧ s'.2.2 = s.2.2 := by
  unfold f_X10_finish
  rw [overC hP, if_pos hD, Option.bind_some, if_pos rfl]
  have h14 : (swS s).1 14 = nI D.length := by
    show s.1 14 = _
    rw [hP.1, show min D.length 8001 = D.length by omega]
  refine ⟨uF (swS s) 13 ((swS s).1 14), ?_, h14, rfl, fun j h1 h2 => ?_, fun j h1 h2 => ?_, rfl⟩
  · show some ((swS s).1 14, _) = _
    rw [h14]
  · simp only [uF_1, h2, if_false]
    unfold swS
    simp only [h1, if_false]
  · show (swS s).2.1 j = _
    unfold swS
    simp only [h1, h2, if_false]
theorem finM_loop {n : Nat} {s0 : StT} {D : List Nat} (hP : PgM s0 D) (hD : D.length ≤ 8000) (hb : ∀ b, b ∈ D → b < 128) : ∀ (d i fu : Nat) (s : StT), i + d = D.length → d < fu → AgA 7 s0 s → (∀ j, j < i → s.2.1 7 j = s0.2.1 8 j) → ∃ s', f_X12_written_15 n fu s (nI i) = some (nI D.length, s') ∧ s'.1 14 = nI D.length ∧ (∀ j, j ≠ 14 → s'.1 j = s0.1 j) ∧ (∀ j, j ≠ 7 → s'.2.1 j = s0.2.1 j) ∧ s'.2.2 = s0.2.2 ∧ ∀ j, j < D.length → s'.2.1 7 j = s0.2.1 8 j := by
  have h15 : s0.1 15 = nI D.length := by rw [hP.1, show min D.length 8100 = D.length by omega]
  intro d
  induction d with
  | zero =>
    intro i fu s hi hfu hA hs
    obtain ⟨fu, rfl⟩ : ∃ q, fu = q + 1 := ⟨fu - 1, by omega⟩
    rw [f_X12_written_15, hA.1, h15, if_pos ((nI_leI (by omega) (by omega)).mpr (by omega))]
    exact ⟨_, rfl, rfl, fun j hj => by simp only [uF_1, hj, if_false]; exact hA.1 j, fun j hj => hA.2.1 j hj, hA.2.2, fun j hj => hs j (by omega)⟩
  | succ d ih =>
    intro i fu s hi hfu hA hs
    obtain ⟨fu, rfl⟩ : ∃ q, fu = q + 1 := ⟨fu - 1, by omega⟩
    have hi2 : i < D.length := by omega
    have hv : s0.2.1 8 i = nI D[i] := hP.2 i _ (by omega) (List.getElem?_eq_getElem hi2)
    rw [f_X12_written_15, hA.1, h15, if_neg (fun e => absurd ((nI_leI (by omega) (by omega)).mp e) (by omega)), inB_nI (show i < 8100 by omega) (by omega), if_pos rfl, if_pos rfl, nI_cl (by omega), hA.2.1 8 (by decide), hv, byteN _ (hb _ (List.getElem_mem hi2)), nI_1]
    refine ih (i + 1) fu _ (by omega) (by omega) (hA.up _ _) (fun j hj => ?_)
    simp only [uA_21, if_true, upd_j, nI_cl (show i < 2 ^ 31 by omega)]
    by_cases e : j = i
    · rw [if_pos e, e, hv]
    · rw [if_neg e]; exact hs j (by omega)
theorem writtenM {n : Nat} (hn : 100000 ≤ n) {s : StT} {D : List Nat} (hP : PgM s D) (hD : D.length ≤ 8000) (hb : ∀ b, b ∈ D → b < 128) : ∃ s', f_X12_written n s = some (nI D.length, s') ∧ s'.1 14 = nI D.length ∧ (∀ j, j ≠ 14 → s'.1 j = s.1 j) ∧ (∀ j, j ≠ 7 → s'.2.1 j = s.2.1 j) ∧ s'.2.2 = s.2.2 ∧ ∀ j, j < D.length → s'.2.1 7 j = s.2.1 8 j := by
  unfold f_X12_written
  have h15 : s.1 15 = nI D.length := by rw [hP.1, show min D.length 8100 = D.length by omega]
  rw [h15, if_pos (show nI D.length ≤ (8000 : Int32) from (nI_leI (b := 8000) (by omega) (by omega)).mpr hD)]
  have := finM_loop (n := n) hP hD hb D.length 0 n s (by omega) (by omega) (AgA.rf _ _) (fun j hj => by omega)
  rw [nI_0] at this
  exact this
/-- both pages are done: what was written latest is the same again -/
theorem page_end {n : Nat} (hn : 100000 ≤ n) {sC sM s s' : StT} {D : List Nat} {wn : Nat} (hW : RelW sC sM wn) (hb : ∀ b, b ∈ D → b < 128) (hs : (D.length ≤ 8000 ∧ PgC s D) ∨ (8000 < D.length ∧ s.1 14 = nI 8001)) (hs' : (D.length ≤ 8000 ∧ PgM s' D) ∨ (8000 < D.length ∧ ∃ m, s'.1 15 = nI m ∧ 8000 < m ∧ m ≤ 8100)) (c13 : s.1 13 = sC.1 13) (c12 : s.2.1 12 = sC.2.1 12) (m14 : s'.1 14 = sM.1 14) (m7 : s'.2.1 7 = sM.2.1 7) : ∃ (r : Int32) (s2 s2' : StT) (wn' : Nat), f_X10_finish n s = some (r, s2) ∧ f_X12_written n s' = some (r, s2') ∧ RelW s2 s2' wn' ∧ ((∀ j, j ≠ 12 → j ≠ 13 → s2.1 j = s.1 j) ∧ (∀ j, j ≠ 12 → j ≠ 13 → s2.2.1 j = s.2.1 j) ∧ s2.2.2 = s.2.2) ∧ ((∀ j, j ≠ 14 → s2'.1 j = s'.1 j) ∧ (∀ j, j ≠ 7 → s2'.2.1 j = s'.2.1 j) ∧ s2'.2.2 = s'.2.2) := by
  rcases hs with ⟨h1, h2⟩ | ⟨h1, h2⟩
  · rcases hs' with ⟨g1, g2⟩ | ⟨g1, g2⟩
    · obtain ⟨s2, a1, a2, a3, a4, a5, a6⟩ := finC (n := n) h2 h1
      obtain ⟨s2', b1, b2, b3, b4, b5, b6⟩ := writtenM (n := n) hn g2 g1 hb
      refine ⟨_, s2, s2', D.length, a1, b1, ⟨h1, a2, b2, fun i hi => ?_⟩, ⟨a4, a5, a6⟩, ⟨b3, b4, b5⟩⟩
      have hl := List.getElem?_eq_getElem hi
      have e1 : s.2.1 13 i = nI D[i] := h2.2 i _ (by omega) hl
      have e2 : s'.2.1 8 i = nI D[i] := g2.2 i _ (by omega) hl
      rw [a3, b6 i hi, e1, e2]
      exact ⟨rfl, D[i], hb _ (List.getElem_mem hi), rfl⟩
    · omega
  · rcases hs' with ⟨g1, g2⟩ | ⟨g1, m, g2, g3, g4⟩
    · omega
    · unfold f_X10_finish f_X10_overflows f_X12_written
      rw [h2, g2, if_neg (by decide), if_neg (show ¬ nI m ≤ (8000 : Int32) from fun e => absurd ((nI_leI (b := 8000) (by omega) (by omega)).mp e) (by omega)), Option.bind_some, if_neg (show ¬ (1 : Int32) = 0 by decide)]
      refine ⟨_, s, s', wn, rfl, rfl, ?_, ⟨fun _ _ _ => rfl, fun _ _ _ => rfl, rfl⟩, ⟨fun _ _ => rfl, fun _ _ => rfl, rfl⟩⟩
      unfold RelW at hW ⊢
      rw [c13, c12, m14, m7]
      exact hW
theorem op_write {n : Nat} (hn : 100000 ≤ n) {sC sM : StT} {t : FT} {vn wn : Nat} {nm : Nat → List Nat} (hC : CFt sC t) (hM : MF sM t) (hw : WFt t vn) (h7 : sC.1 7 = nI vn) (hNC : NmC sC vn nm) (hNM : NmM sM vn nm) (hNW : NmW vn nm) (hW : RelW sC sM wn) (x : Int32) : ∃ (r : Int32) (sC' sM' : StT) (wn' : Nat), f_X11_write n sC x = some (r, sC') ∧ f_X12_write n sM x = some (r, sM') ∧ RelW sC' sM' wn' ∧ FrWC sC sC' ∧ FrWM sM sM' := by
  have hb := hw.2.1
  have rC : FrWC sC sC := ⟨fun _ _ _ _ => rfl, fun _ _ _ _ => rfl, rfl⟩
  have rM : FrWM sM sM := ⟨fun _ _ _ _ => rfl, fun _ _ _ _ _ _ _ => rfl, rfl⟩
  unfold f_X11_write f_X12_write
  by_cases hx : x < 0
  · have : f_X1_has_F0 n sC x = some (0, sC) := by
      rcases both_has (n := n) hC.1 hM.1 hb x with ⟨f, hf, rfl, e1, e2⟩ | ⟨e1, e2⟩
      · exact absurd hx (nI_nneg (by omega))
      · exact e1
    rw [this, if_pos hx]
    simp only [bnd, if_true]
    exact ⟨_, _, _, wn, rfl, rfl, hW, rC, rM⟩
  obtain ⟨f, hf31, rfl⟩ := nI_of hx
  rw [if_neg hx, hM.1]
  rcases both_has (n := n) hC.1 hM.1 hb (nI f) with ⟨g, hg, e0, e1, -⟩ | ⟨e1, e2⟩
  · have := nI_inj hf31 (by omega) e0
    subst this
    rw [e1, if_pos ((nI_ltI (by omega) (by omega)).mpr hg)]
    simp only [bnd, i10, if_false]
    -- the class
    unfold f_X10_wholeFormula
    have P0 : PgC (uF sC 14 0) [] := ⟨rfl, fun i b _ h => by simp at h⟩
    have F0 : AgF sC (uF sC 14 0) := ⟨fun j hj => by simp only [uF_1, hj, if_false], fun _ _ _ => rfl, rfl⟩
    obtain ⟨s1, a1, a2, a3⟩ := putFormulaC hn (hC.agF F0) hw (by rw [F0.1 7 (by decide)]; exact h7) (hNC.agF F0) hNW hg P0 (by simp)
    rw [List.nil_append] at a3
    -- the reference
    have Q0 : PgM (uF (uF sM 15 0) 31 0) [] := ⟨rfl, fun i b _ h => by simp at h⟩
    have W0 : AgW sM (uF (uF sM 15 0) 31 0) := ⟨fun j h1 h2 => by simp only [uF_1, h1, h2, if_false], fun _ _ _ _ _ _ => rfl, rfl⟩
    have hp31 : (uF (uF sM 15 0) 31 0).1 31 = nI 0 := rfl
    have W1 := W0.tr (psh_ag _ 0 1 (nI f) 0 0)
    have g := wfM hn (hM.agW W1) hw (hNM.agW W1) hNW f hg 0 n (psh (uF (uF sM 15 0) 31 0) 0 1 (nI f) 0 0) [] (by omega) (psh_pg Q0 _ _ _ _ _) (by simp) rfl (by simp; omega) (AgW.rf _) ⟨0, 0, by rw [psh_ent (by omega), if_pos rfl]⟩
    rw [List.nil_append] at g
    obtain ⟨s1', b1, b2, b3⟩ : ∃ s1', f_X12_writeAll n (psh (uF (uF sM 15 0) 31 0) 0 1 (nI f) 0 0) = some s1' ∧ AgW sM s1' ∧ (((fb t nm f).length ≤ 8000 ∧ PgM s1' (fb t nm f)) ∨ (8000 < (fb t nm f).length ∧ ∃ m, s1'.1 15 = nI m ∧ 8000 < m ∧ m ≤ 8100)) := by
      unfold f_X12_writeAll
      rcases g with ⟨g1, s4, fu4, g2, g3, g4, g5, g6, g7⟩ | ⟨g1, s4, m, g2, g3, g4, g5, g6⟩
      · obtain ⟨fu4, rfl⟩ : ∃ q, fu4 = q + 1 := ⟨fu4 - 1, by omega⟩
        rw [g2, f_X12_writeAll_0, g4, if_pos (by decide)]
        exact ⟨s4, rfl, W1.tr g6, Or.inl ⟨g1, g3⟩⟩
      · exact ⟨s4, g2, W1.tr g6, Or.inr ⟨g1, m, g3, g4, g5⟩⟩
    have f1 : AgF sC s1 := F0.tr a2
    obtain ⟨r, s2, s2', wn', c1, c2, c3, c4, c5⟩ := page_end (n := n) hn hW (fb_ok hw hNW f hg).2 a3 b3 (f1.1 13 (by decide)) (f1.2.1 12 (by decide) (by decide)) (b2.1 14 (by decide) (by decide)) (b2.2.1 7 (by decide) (by decide) (by decide) (by decide) (by decide))
    rw [a1, pushM hp31 (by omega)]
    simp only [bnd]
    rw [c1, b1]
    simp only [bnd]
    rw [c2]
    simp only [bnd]
    refine ⟨r, s2, s2', wn', rfl, rfl, c3, ⟨fun j h1 h2 h3 => (c4.1 j h1 h2).trans (f1.1 j h3), fun j h1 h2 h3 => (c4.2.1 j h1 h2).trans (f1.2.1 j h2 h3), c4.2.2.trans f1.2.2⟩, ⟨fun j h1 h2 h3 => (c5.1 j h1).trans (b2.1 j h2 h3), fun j h1 h2 h3 h4 h5 h6 => (c5.2.1 j h1).trans (b2.2.1 j h2 h3 h4 h5 h6), c5.2.2.trans b2.2.2⟩⟩
  · have hnf : ¬ f < t.1 := by
      intro hlt
      have e3 := both_has (n := n) hC.1 hM.1 hb (nI f)
      rcases e3 with ⟨g, hg, e0, e3, -⟩ | ⟨-, e3⟩
      · rw [e1] at e3
        have := congrArg (fun o => o.map (·.1)) e3
        simp at this
      · unfold f_X12_isFormula at e2
        rw [if_neg hx, hM.1, if_neg (fun e => absurd ((nI_leI (by omega) (by omega)).mp e) (by omega))] at e2
        have := congrArg (fun o => o.map (·.1)) e2
        simp at this
    rw [e1, if_neg (fun e => hnf ((nI_ltI (by omega) (by omega)).mp e))]
    simp only [bnd, if_true]
    exact ⟨_, _, _, wn, rfl, rfl, hW, rC, rM⟩
