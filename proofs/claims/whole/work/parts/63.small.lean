/-! ===== the small calls ===== -/
theorem i10 : ((1 : Int32) = 0) = False := by simp
def RelT (sC sM : StT) (tn : Nat) (tx : Nat → Int32) : Prop := tn ≤ 3000 ∧ sC.1 0 = nI tn ∧ sM.1 3 = nI tn ∧ ∀ i, i < tn → sC.2.1 1 i = tx i ∧ sM.2.1 6 i = tx i ∧ (tx i).toInt8.toInt32 = tx i
def RelG (sC sM : StT) (gn : Nat) (gv : Nat → Nat) (t1 : Nat) : Prop := gn ≤ 20 ∧ sC.1 28 = nI gn ∧ sM.1 16 = nI gn ∧ ∀ i, i < gn → sC.2.1 0 i = nI (gv i) ∧ sM.2.1 9 i = nI (gv i) ∧ gv i < t1
def RelW (sC sM : StT) (wn : Nat) : Prop := wn ≤ 8000 ∧ sC.1 13 = nI wn ∧ sM.1 14 = nI wn ∧ ∀ i, i < wn → sC.2.1 12 i = sM.2.1 7 i ∧ ∃ b, b < 128 ∧ sM.2.1 7 i = nI b
def RelD (sC sM : StT) (dn : Nat) (dp : Nat → Nat) (df : Nat → Int32) : Prop := 1 ≤ dn ∧ dn ≤ 60 ∧ sC.1 27 = nI dn ∧ sM.1 36 = nI dn ∧ (∀ w, w < dn → sC.2.1 43 w = df w ∧ sM.2.1 54 w = df w) ∧ sC.2.1 42 0 = -1 ∧ sM.2.1 53 0 = -1 ∧ ∀ w, 0 < w → w < dn → sC.2.1 42 w = nI (dp w) ∧ sM.2.1 53 w = nI (dp w) ∧ dp w < w
theorem isFormulaM {n : Nat} {s : StT} {fn : Nat} (h : s.1 0 = nI fn) (hf : fn ≤ 2000) (x : Int32) : (∃ f, f < fn ∧ x = nI f ∧ f_X12_isFormula n s x = some (1, s)) ∨ ((x < 0 ∨ ∃ f, fn ≤ f ∧ f < 2 ^ 31 ∧ x = nI f) ∧ f_X12_isFormula n s x = some (0, s)) := by
  unfold f_X12_isFormula
  by_cases hx : x < 0
  · rw [if_pos hx]
    exact Or.inr ⟨Or.inl hx, rfl⟩
  · rw [if_neg hx]
    obtain ⟨f, hf31, rfl⟩ := nI_of hx
    by_cases c : f < fn
    · rw [h, if_neg (fun e => absurd ((nI_leI (by omega) hf31).mp e) (by omega))]
      exact Or.inl ⟨f, c, rfl, rfl⟩
    · rw [h, if_pos ((nI_leI (by omega) hf31).mpr (by omega))]
      exact Or.inr ⟨Or.inr ⟨f, by omega, hf31, rfl⟩, rfl⟩
/-- both sides see the same formula, or none -/
theorem both_has {n : Nat} {sC sM : StT} {fn : Nat} (hC : sC.1 6 = nI fn) (hM : sM.1 0 = nI fn) (hf : fn ≤ 2000) (x : Int32) : (∃ f, f < fn ∧ x = nI f ∧ f_X1_has_F0 n sC x = some (1, sC) ∧ f_X12_isFormula n sM x = some (1, sM)) ∨ (f_X1_has_F0 n sC x = some (0, sC) ∧ f_X12_isFormula n sM x = some (0, sM)) := by
  rcases hasF0_any (n := n) hC hf x with ⟨f, h1, h2, h3⟩ | ⟨h1, h2⟩
  · rcases isFormulaM (n := n) hM hf x with ⟨g, g1, g2, g3⟩ | ⟨g1, g2⟩
    · exact Or.inl ⟨f, h1, h2, h3, g3⟩
    · exfalso
      rcases g1 with g1 | ⟨g, g1, g3, g4⟩
      · rw [h2] at g1; exact nI_nneg (by omega) g1
      · rw [h2] at g4
        have := nI_inj (by omega) g3 g4
        omega
  · rcases isFormulaM (n := n) hM hf x with ⟨g, g1, g2, g3⟩ | ⟨g1, g2⟩
    · exfalso
      rcases h1 with h1 | ⟨f, h1, h3, h4⟩
      · rw [g2] at h1; exact nI_nneg (by omega) h1
      · rw [g2] at h4
        have := nI_inj (by omega) h3 h4
        omega
    · exact Or.inr ⟨h2, g2⟩
theorem op_count {n : Nat} {sC sM : StT} {x : Int32} (h1 : sC.1 6 = sM.1 0) (h2 : sC.1 7 = sM.1 2) (h3 : sC.1 28 = sM.1 16) (h4 : sC.1 27 = sM.1 36) : ∃ r, f_X11_count n sC x = some (r, sC) ∧ f_X12_count n sM x = some (r, sM) := by
  unfold f_X11_count f_X12_count f_X1_many_F0 f_X1_variables_F0 f_X9_many
  simp only [bnd, h1, h2, h3, h4]
  by_cases c0 : x = 0
  · simp only [c0, if_true]; exact ⟨_, rfl, rfl⟩
  by_cases c1 : x = 1
  · simp only [c0, c1, if_true, if_false]; exact ⟨_, rfl, rfl⟩
  by_cases c2 : x = 2
  · simp only [c0, c1, c2, if_true, if_false]; exact ⟨_, rfl, rfl⟩
  by_cases c3 : x = 3
  · simp only [c0, c1, c2, c3, if_true, if_false]; exact ⟨_, rfl, rfl⟩
  simp only [c0, c1, c2, c3, if_false]; exact ⟨_, rfl, rfl⟩
theorem op_told {n : Nat} {sC sM : StT} {x : Int32} (h1 : sC.1 20 = sM.1 20) (h2 : sC.1 17 = sM.1 22) (h3 : sC.1 21 = sM.1 23) (h4 : sC.1 22 = sM.1 28) : ∃ r, f_X11_told n sC x = some (r, sC) ∧ f_X12_told n sM x = some (r, sM) := by
  unfold f_X11_told f_X12_told
  simp only [h1, h2, h3, h4]
  by_cases c0 : x = 0
  · simp only [c0, if_true]; exact ⟨_, rfl, rfl⟩
  by_cases c1 : x = 1
  · simp only [c0, c1, if_true, if_false]; exact ⟨_, rfl, rfl⟩
  by_cases c2 : x = 2
  · simp only [c0, c1, c2, if_true, if_false]; exact ⟨_, rfl, rfl⟩
  by_cases c3 : x = 3
  · simp only [c0, c1, c2, c3, if_true, if_false]; exact ⟨_, rfl, rfl⟩
  simp only [c0, c1, c2, c3, if_false]; exact ⟨_, rfl, rfl⟩
theorem op_formula {n : Nat} {sC sM : StT} {t : FT} {vn : Nat} (hC : CFt sC t) (hM : MF sM t) (hw : WFt t vn) (x y : Int32) : ∃ r, f_X11_formula n sC x y = some (r, sC) ∧ f_X12_formula n sM x y = some (r, sM) := by
  have h2 := hw.2.1
  unfold f_X11_formula f_X12_formula
  rcases both_has (n := n) hC.1 hM.1 h2 x with ⟨f, hf, rfl, e1, e2⟩ | ⟨e1, e2⟩
  · rw [e1, e2]
    simp only [bnd, i10, if_false]
    rw [kindOfF0 hC hf, firstOfF0 hC hf, secondOfF0 hC hf, inB_nI (show f < 4200 by omega) (by omega), nI_cl (by omega), (hM.2 f hf).1, (hM.2 f hf).2.1, (hM.2 f hf).2.2]
    simp only [bnd, if_true]
    by_cases c0 : y = 0
    · simp only [c0, if_true]; exact ⟨_, rfl, rfl⟩
    by_cases c1 : y = 1
    · simp only [c0, c1, if_true, if_false]; exact ⟨_, rfl, rfl⟩
    by_cases c2 : y = 2
    · simp only [c0, c1, c2, if_true, if_false]; exact ⟨_, rfl, rfl⟩
    simp only [c0, c1, c2, if_false]; exact ⟨_, rfl, rfl⟩
  · rw [e1, e2]
    simp only [bnd, if_true]
    exact ⟨_, rfl, rfl⟩
theorem op_octet {n : Nat} {sC sM : StT} {wn : Nat} (h : RelW sC sM wn) (x : Int32) : ∃ r, f_X11_octet n sC x = some (r, sC) ∧ f_X12_octet n sM x = some (r, sM) := by
  obtain ⟨h1, h2, h3, h4⟩ := h
  unfold f_X11_octet f_X12_octet f_X10_latestByte
  by_cases hx : x < 0
  · rw [if_pos hx, if_pos hx]; exact ⟨_, rfl, rfl⟩
  · rw [if_neg hx, if_neg hx]
    obtain ⟨i, hi, rfl⟩ := nI_of hx
    rw [h2, h3]
    by_cases c : i < wn
    · rw [if_neg (fun e => absurd ((nI_leI (by omega) hi).mp e) (by omega)), if_neg (show ¬ (8000 : Int32) ≤ nI i from fun e => absurd ((nI_leI (a := 8000) (by omega) hi).mp e) (by omega)), if_pos ((nI_ltI hi (by omega)).mpr c), inB_nI (show i < 8000 by omega) (by omega), inB_nI (show i < 8100 by omega) (by omega), nI_cl hi]
      simp only [if_true, bnd]
      obtain ⟨e, b, hb, e2⟩ := h4 i c
      refine ⟨_, rfl, ?_⟩
      rw [e, e2]
      have : nI b &&& 255 = nI b := by
        rw [pk_andN (by omega) (m := 255) 8 (by decide), Nat.mod_eq_of_lt (by omega)]
      rw [this]
    · rw [if_pos ((nI_leI (by omega) hi).mpr (by omega)), if_neg (fun e => c ((nI_ltI hi (by omega)).mp e))]
      exact ⟨_, rfl, rfl⟩
theorem op_given {n : Nat} {sC sM : StT} {fn gn : Nat} {gv : Nat → Nat} (hC : sC.1 6 = nI fn) (hM : sM.1 0 = nI fn) (hf : fn ≤ 2000) (hg : RelG sC sM gn gv fn) (x : Int32) : (∃ r, f_X11_given n sC x = some (r, sC) ∧ f_X12_given n sM x = some (r, sM)) ∨ ∃ (r : Int32) (f : Nat), gn < 20 ∧ f < fn ∧ f_X11_given n sC x = some (r, uF (uA sC 0 (nI gn) (nI f)) 28 (nI (gn + 1))) ∧ f_X12_given n sM x = some (r, uF (uA sM 9 (nI gn) (nI f)) 16 (nI (gn + 1))) := by
  obtain ⟨h1, h2, h3, h4⟩ := hg
  unfold f_X11_given f_X12_given
  rcases both_has (n := n) hC hM hf x with ⟨f, hff, rfl, e1, e2⟩ | ⟨e1, e2⟩
  · rw [e1, e2]
    simp only [bnd, i10, if_false]
    rw [h2, h3, if_neg (nI_nneg (by omega))]
    by_cases c : gn < 20
    · rw [if_pos (show nI gn < (20 : Int32) from (nI_ltI (b := 20) (by omega) (by omega)).mpr c), if_neg (show ¬ nI gn = (20 : Int32) from fun e => absurd (nI_inj (b := 20) (by omega) (by omega) e) (by omega)), inB_nI c (by omega)]
      simp only [if_true, uA_1, uF_1, h2, h3, nI_1]
      exact Or.inr ⟨_, f, c, hff, rfl, rfl⟩
    · have : gn = 20 := by omega
      subst this
      rw [if_neg (by decide), if_pos (by decide)]
      exact Or.inl ⟨_, rfl, rfl⟩
  · rw [e1, e2]
    simp only [bnd, if_true]
    exact Or.inl ⟨_, rfl, rfl⟩
theorem RelG.grow {sC sM : StT} {fn gn : Nat} {gv : Nat → Nat} (hg : RelG sC sM gn gv fn) {f : Nat} (c : gn < 20) (hf : f < fn) : RelG (uF (uA sC 0 (nI gn) (nI f)) 28 (nI (gn + 1))) (uF (uA sM 9 (nI gn) (nI f)) 16 (nI (gn + 1))) (gn + 1) (fun i => if i = gn then f else gv i) fn := by
  obtain ⟨h1, h2, h3, h4⟩ := hg
  refine ⟨by omega, rfl, rfl, fun i hi => ?_⟩
  simp only [uF_2, uA_21, upd_j, nI_cl (show gn < 2 ^ 31 by omega), if_true]
  by_cases q : i = gn
  · simp only [q, if_true]; exact ⟨trivial, trivial, hf⟩
  · simp only [q, if_false]; exact h4 i (by omega)
theorem op_make {n : Nat} (hn : 100000 ≤ n) {sC sM : StT} {t : FT} {vn : Nat} (hC : CFt sC t) (hM : MF sM t) (hw : WFt t vn) (k x y : Int32) : ∃ (r : Int32) (sC' sM' : StT) (t' : FT), f_X11_make n sC k x y = some (r, sC') ∧ f_X12_make n sM k x y = some (r, sM') ∧ CFt sC' t' ∧ MF sM' t' ∧ WFt t' vn ∧ FrC sC sC' ∧ FrM sM sM' ∧ t.1 ≤ t'.1 ∧ (∀ f, f < t.1 → t'.2.1 f = t.2.1 f ∧ t'.2.2.1 f = t.2.2.1 f ∧ t'.2.2.2 f = t.2.2.2 f) := by
  have h2 := hw.2.1
  have same : ∃ t' : FT, CFt sC t' ∧ MF sM t' ∧ WFt t' vn ∧ t.1 ≤ t'.1 ∧ (∀ f, f < t.1 → t'.2.1 f = t.2.1 f ∧ t'.2.2.1 f = t.2.2.1 f ∧ t'.2.2.2 f = t.2.2.2 f) := ⟨t, hC, hM, hw, Nat.le_refl _, fun _ _ => ⟨rfl, rfl, rfl⟩⟩
  obtain ⟨t0, s1, s2, s3, s4, s5⟩ := same
  unfold f_X11_make f_X12_make
  rcases both_has (n := n) hC.1 hM.1 h2 x with ⟨a, ha, rfl, e1, e2⟩ | ⟨e1, e2⟩
  · rw [e1, e2]
    simp only [bnd, i10, if_false]
    rcases both_has (n := n) hC.1 hM.1 h2 y with ⟨b, hb, rfl, e3, e4⟩ | ⟨e3, e4⟩
    · rw [e3, e4]
      simp only [bnd, i10, if_false]
      have good : ∀ q : Nat, 3 ≤ q ∧ q ≤ 5 → k = nI q → ∃ (r : Int32) (sC' sM' : StT) (t' : FT), f_X11_make_42 n sC k (nI a) (nI b) = some (r, sC') ∧ ((f_X12_formulaOf n sM k (nI a) (nI b)).bind fun q35 => (if 0 ≤ q35.1 then (some (q35.1, q35.2)) else (some ((-4 : Int32), q35.2)))) = some (r, sM') ∧ CFt sC' t' ∧ MF sM' t' ∧ WFt t' vn ∧ FrC sC sC' ∧ FrM sM sM' ∧ t.1 ≤ t'.1 ∧ (∀ f, f < t.1 → t'.2.1 f = t.2.1 f ∧ t'.2.2.1 f = t.2.2.1 f ∧ t'.2.2.2 f = t.2.2.2 f) := by
        intro q hq hk
        subst hk
        unfold f_X11_make_42
        obtain ⟨c1, c2, c3, c4⟩ := joinedC hn hC hw (k := q) (a := a) (b := b) (by omega) (by omega) (by omega)
        obtain ⟨m1, m2, m3, m4⟩ := joinedM hn hM hw (k := q) (a := a) (b := b) (by omega) (by omega) (by omega)
        rw [c2, m2]
        simp only [bnd]
        have hJ := hw.join hq ha hb
        have hg : t.1 ≤ (jn t q a b).2.1 ∧ ∀ f, f < t.1 → (jn t q a b).2.2.1 f = t.2.1 f ∧ (jn t q a b).2.2.2.1 f = t.2.2.1 f ∧ (jn t q a b).2.2.2.2 f = t.2.2.2 f := jn_grow t q a b
        by_cases c : 0 ≤ oI (jn t q a b).1
        · rw [if_pos c, if_pos c]; exact ⟨_, _, _, _, rfl, rfl, c3, m3, hJ, c4, m4, hg.1, hg.2⟩
        · rw [if_neg c, if_neg c]; exact ⟨_, _, _, _, rfl, rfl, c3, m3, hJ, c4, m4, hg.1, hg.2⟩
      by_cases q3 : k = 3
      · rw [if_pos q3, if_neg (by rw [q3]; decide), if_pos (by rw [q3]; decide)]
        exact good 3 (by omega) q3
      rw [if_neg q3]
      by_cases q4 : k = 4
      · rw [if_pos q4, if_neg (by rw [q4]; decide), if_pos (by rw [q4]; decide)]
        exact good 4 (by omega) q4
      rw [if_neg q4]
      by_cases q5 : k = 5
      · rw [if_pos q5, if_neg (by rw [q5]; decide), if_pos (by rw [q5]; decide)]
        exact good 5 (by omega) q5
      rw [if_neg q5]
      by_cases c3 : k < 3
      · rw [if_pos c3]; exact ⟨_, _, _, t0, rfl, rfl, s1, s2, s3, FrC.rf _, FrM.rf _, s4, s5⟩
      · rw [if_neg c3, if_neg (fun e => out35 c3 e q3 q4 q5)]
        exact ⟨_, _, _, t0, rfl, rfl, s1, s2, s3, FrC.rf _, FrM.rf _, s4, s5⟩
    · rw [e3, e4]
      simp only [bnd, if_true]
      exact ⟨_, _, _, t0, rfl, rfl, s1, s2, s3, FrC.rf _, FrM.rf _, s4, s5⟩
  · rw [e1, e2]
    simp only [bnd, if_true]
    exact ⟨_, _, _, t0, rfl, rfl, s1, s2, s3, FrC.rf _, FrM.rf _, s4, s5⟩
