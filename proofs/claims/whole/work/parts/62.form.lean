/-! ===== formulas: the table that both sides hold ===== -/
abbrev FT : Type := Nat × (Nat → Nat) × (Nat → Nat) × (Nat → Nat)
def lk (t : FT) (k a b : Nat) : Nat → Option Nat
  | 0 => none
  | m + 1 => match lk t k a b m with
    | some f => some f
    | none => if t.2.1 m = k ∧ t.2.2.1 m = a ∧ t.2.2.2 m = b then some m else none
def oI : Option Nat → Int32
  | some f => nI f
  | none => -1
def addT (t : FT) (k a b : Nat) : FT := (t.1 + 1, (fun f => if f = t.1 then k else t.2.1 f), (fun f => if f = t.1 then a else t.2.2.1 f), (fun f => if f = t.1 then b else t.2.2.2 f))
def jn (t : FT) (k a b : Nat) : Option Nat × FT := match lk t k a b t.1 with
  | some f => (some f, t)
  | none => if t.1 = 2000 then (none, t) else (some t.1, addT t k a b)
def CFt (s : StT) (t : FT) : Prop := CFF0 s t.1 t.2.1 t.2.2.1 t.2.2.2
def MF (s : StT) (t : FT) : Prop := s.1 0 = nI t.1 ∧ ∀ f, f < t.1 → s.2.1 0 f = nI (t.2.1 f) ∧ s.2.1 1 f = nI (t.2.2.1 f) ∧ s.2.1 2 f = nI (t.2.2.2 f)
/-- a table as it should be; vn variables -/
def WFt (t : FT) (vn : Nat) : Prop := 2 ≤ t.1 ∧ t.1 ≤ 2000 ∧ (t.2.1 0 = 0 ∧ t.2.2.1 0 = 0 ∧ t.2.2.2 0 = 0) ∧ (t.2.1 1 = 1 ∧ t.2.2.1 1 = 0 ∧ t.2.2.2 1 = 0) ∧ vn ≤ 24 ∧ (∀ f, 2 ≤ f → f < t.1 → (t.2.1 f = 2 ∧ t.2.2.1 f < vn ∧ t.2.2.2 f = 0) ∨ (3 ≤ t.2.1 f ∧ t.2.1 f ≤ 5 ∧ t.2.2.1 f < f ∧ t.2.2.2 f < f)) ∧ ∀ f g, f < t.1 → g < t.1 → t.2.1 f = t.2.1 g → t.2.2.1 f = t.2.2.1 g → t.2.2.2 f = t.2.2.2 g → f = g
theorem WFt.bd {t : FT} {vn : Nat} (h : WFt t vn) {f : Nat} (hf : f < t.1) : t.2.1 f ≤ 5 ∧ t.2.2.1 f < 2000 ∧ t.2.2.2 f < 2000 := by
  obtain ⟨h1, h2, ⟨a1, a2, a3⟩, ⟨b1, b2, b3⟩, h5, h6, h7⟩ := h
  rcases Nat.lt_or_ge f 2 with c | c
  · rcases (show f = 0 ∨ f = 1 by omega) with rfl | rfl
    · omega
    · omega
  · rcases h6 f c hf with q | q <;> omega
theorem WFt.fit {t : FT} {vn : Nat} (h : WFt t vn) : fitF t.1 t.2.1 t.2.2.1 t.2.2.2 := ⟨by have := h.2.1; omega, fun f hf => by have := h.bd hf; omega⟩
theorem lk_some {t : FT} {k a b : Nat} : ∀ {m f : Nat}, lk t k a b m = some f → f < m ∧ isF t.2.1 t.2.2.1 t.2.2.2 k a b f := by
  intro m
  induction m with
  | zero => intro f h; cases h
  | succ m ih =>
    intro f h
    unfold lk at h
    cases e : lk t k a b m with
    | some g =>
      rw [e] at h
      cases h
      obtain ⟨h1, h2⟩ := ih e
      exact ⟨by omega, h2⟩
    | none =>
      rw [e] at h
      dsimp only at h
      split at h
      · rename_i hc
        cases h
        exact ⟨by omega, hc⟩
      · cases h
theorem lk_none {t : FT} {k a b : Nat} : ∀ {m : Nat}, lk t k a b m = none → ∀ f, f < m → ¬ isF t.2.1 t.2.2.1 t.2.2.2 k a b f := by
  intro m
  induction m with
  | zero => intro _ f hf; omega
  | succ m ih =>
    intro h f hf
    unfold lk at h
    cases e : lk t k a b m with
    | some g => rw [e] at h; cases h
    | none =>
      rw [e] at h
      dsimp only at h
      split at h
      · cases h
      · rename_i hc
        by_cases c : f = m
        · rw [c]; exact hc
        · exact ih e f (by omega)
theorem found_lk {t : FT} {vn k a b : Nat} {r : Int32} (hw : WFt t vn) (h : FoundR (isF t.2.1 t.2.2.1 t.2.2.2 k a b) t.1 r) : r = oI (lk t k a b t.1) := by
  cases e : lk t k a b t.1 with
  | some g =>
    obtain ⟨g1, g2⟩ := lk_some e
    rcases h with ⟨f, f1, f2, f3⟩ | ⟨f1, f2⟩
    · rw [f3]
      have := hw.2.2.2.2.2.2 f g f1 g1 (f2.1.trans g2.1.symm) (f2.2.1.trans g2.2.1.symm) (f2.2.2.trans g2.2.2.symm)
      rw [this]; rfl
    · exact absurd g2 (f1 g g1)
  | none =>
    rcases h with ⟨f, f1, f2, f3⟩ | ⟨f1, f2⟩
    · exact absurd f2 (lk_none e f f1)
    · exact f2
theorem WFt.add {t : FT} {vn k a b : Nat} (h : WFt t vn) (hk : 3 ≤ k ∧ k ≤ 5) (ha : a < t.1) (hb : b < t.1) (hno : lk t k a b t.1 = none) (hf : t.1 < 2000) : WFt (addT t k a b) vn := by
  obtain ⟨h1, h2, ⟨a1, a2, a3⟩, ⟨b1, b2, b3⟩, h5, h6, h7⟩ := id h
  refine ⟨by show 2 ≤ t.1 + 1; omega, by show t.1 + 1 ≤ 2000; omega, ?_, ?_, h5, ?_, ?_⟩
  · simp [addT, show (0 : Nat) ≠ t.1 by omega, a1, a2, a3]
  · simp [addT, show (1 : Nat) ≠ t.1 by omega, b1, b2, b3]
  · intro f hf2 hf3
    have hf3 : f < t.1 + 1 := hf3
    by_cases c : f = t.1
    · refine Or.inr ?_
      simp [addT, c]
      omega
    · have := h6 f hf2 (by omega)
      simpa [addT, c] using this
  · intro f g hf1 hg1 e1 e2 e3
    have hf1 : f < t.1 + 1 := hf1
    have hg1 : g < t.1 + 1 := hg1
    by_cases c : f = t.1
    · by_cases d : g = t.1
      · omega
      · simp [addT, c, d] at e1 e2 e3
        exact absurd ⟨e1.symm, e2.symm, e3.symm⟩ (lk_none hno g (by omega))
    · by_cases d : g = t.1
      · simp [addT, c, d] at e1 e2 e3
        exact absurd ⟨e1, e2, e3⟩ (lk_none hno f (by omega))
      · simp [addT, c, d] at e1 e2 e3
        exact h7 f g (by omega) (by omega) e1 e2 e3
theorem WFt.join {t : FT} {vn k a b : Nat} (h : WFt t vn) (hk : 3 ≤ k ∧ k ≤ 5) (ha : a < t.1) (hb : b < t.1) : WFt (jn t k a b).2 vn := by
  unfold jn
  cases e : lk t k a b t.1 with
  | some f => exact h
  | none =>
    dsimp only
    split
    · exact h
    · exact h.add hk ha hb e (by have := h.2.1; omega)
theorem jn_lt {t : FT} {k a b f : Nat} (h : (jn t k a b).1 = some f) : f < (jn t k a b).2.1 := by
  unfold jn at h ⊢
  cases e : lk t k a b t.1 with
  | some g =>
    rw [e] at h
    cases h
    exact (lk_some e).1
  | none =>
    rw [e] at h
    dsimp only at h ⊢
    split at h
    · cases h
    · rename_i c
      rw [if_neg c]
      cases h
      exact Nat.lt_succ_self _
theorem jn_grow (t : FT) (k a b : Nat) : t.1 ≤ (jn t k a b).2.1 ∧ ∀ f, f < t.1 → (jn t k a b).2.2.1 f = t.2.1 f ∧ (jn t k a b).2.2.2.1 f = t.2.2.1 f ∧ (jn t k a b).2.2.2.2 f = t.2.2.2 f := by
  unfold jn
  cases e : lk t k a b t.1 with
  | some f => exact ⟨Nat.le_refl _, fun _ _ => ⟨rfl, rfl, rfl⟩⟩
  | none =>
    dsimp only
    split
    · exact ⟨Nat.le_refl _, fun _ _ => ⟨rfl, rfl, rfl⟩⟩
    · refine ⟨Nat.le_succ _, fun f hf => ?_⟩
      simp [addT, show f ≠ t.1 by omega]
theorem out35 {k : Int32} (h1 : ¬ k < 3) (h2 : k ≤ 5) (h3 : ¬ k = 3) (h4 : ¬ k = 4) (h5 : ¬ k = 5) : False := by
  have n0 : ¬ k < 0 := fun h => h1 (by
    rw [Int32.lt_iff_toInt_lt] at h ⊢
    have e0 : (0 : Int32).toInt = 0 := by decide
    have e3 : (3 : Int32).toInt = 3 := by decide
    omega)
  obtain ⟨q, hq, rfl⟩ := nI_of n0
  have a1 : ¬ q < 3 := fun h => h1 ((nI_ltI (b := 3) hq (by omega)).mpr h)
  have a2 : q ≤ 5 := (nI_leI (b := 5) hq (by omega)).mp h2
  rcases (show q = 3 ∨ q = 4 ∨ q = 5 by omega) with rfl | rfl | rfl
  · exact h3 rfl
  · exact h4 rfl
  · exact h5 rfl
/-- nothing but the class's formulas has changed -/
def FrC (s s' : StT) : Prop := (∀ j, j ≠ 6 → s'.1 j = s.1 j) ∧ (∀ j, j ≠ 2 → j ≠ 3 → j ≠ 4 → j ≠ 5 → j ≠ 6 → s'.2.1 j = s.2.1 j) ∧ s'.2.2 = s.2.2
theorem FrC.rf (s : StT) : FrC s s := ⟨fun _ _ => rfl, fun _ _ _ _ _ _ => rfl, rfl⟩
theorem FrC.tr {s1 s2 s3 : StT} (a : FrC s1 s2) (b : FrC s2 s3) : FrC s1 s3 := ⟨fun j h => (b.1 j h).trans (a.1 j h), fun j h1 h2 h3 h4 h5 => (b.2.1 j h1 h2 h3 h4 h5).trans (a.2.1 j h1 h2 h3 h4 h5), b.2.2.trans a.2.2⟩
/-- nothing but the reference's formulas has changed -/
def FrM (s s' : StT) : Prop := (∀ j, j ≠ 0 → s'.1 j = s.1 j) ∧ (∀ j, j ≠ 0 → j ≠ 1 → j ≠ 2 → s'.2.1 j = s.2.1 j) ∧ s'.2.2 = s.2.2
theorem FrM.rf (s : StT) : FrM s s := ⟨fun _ _ => rfl, fun _ _ _ _ => rfl, rfl⟩
theorem FrM.tr {s1 s2 s3 : StT} (a : FrM s1 s2) (b : FrM s2 s3) : FrM s1 s3 := ⟨fun j h => (b.1 j h).trans (a.1 j h), fun j h1 h2 h3 => (b.2.1 j h1 h2 h3).trans (a.2.1 j h1 h2 h3), b.2.2.trans a.2.2⟩
theorem oI_neg {o : Option Nat} (h : ∀ f, o = some f → f < 2 ^ 31) : oI o < 0 ↔ o = none := by
  cases o with
  | none => exact ⟨fun _ => rfl, fun _ => by show (-1 : Int32) < 0; decide⟩
  | some f => exact ⟨fun e => absurd e (nI_nneg (h f rfl)), fun e => by cases e⟩
theorem joinedC {n : Nat} (hn : 100000 ≤ n) {s : StT} {t : FT} {vn k a b : Nat} (h : CFt s t) (hw : WFt t vn) (hk : k < 100000) (ha : a < 100000) (hb : b < 100000) : ∃ s', f_X1_joined_F0 n s (nI k) (nI a) (nI b) = some (oI (jn t k a b).1, s') ∧ CFt s' (jn t k a b).2 ∧ FrC s s' := by
  obtain ⟨r, hr, hR⟩ := findF0 hn h hw.fit hk ha hb
  have hr2 := found_lk hw hR
  subst hr2
  rw [joinedF0_eq]
  rw [hr]
  simp only [bnd]
  have h2 := hw.2.1
  unfold jn
  cases e : lk t k a b t.1 with
  | some f =>
    have := (lk_some e).1
    rw [if_neg (show ¬ oI (some f) < 0 from nI_nneg (by omega))]
    exact ⟨s, rfl, h, FrC.rf s⟩
  | none =>
    rw [if_pos (show oI none < 0 from m1_neg)]
    dsimp only
    by_cases c : t.1 = 2000
    · rw [if_pos c, addF0_full (by rw [h.1, c])]
      exact ⟨s, rfl, h, FrC.rf s⟩
    · rw [if_neg c]
      obtain ⟨s', e1, e2, e3, e4, e5⟩ := addF0 (n := n) h (k := k) (a := a) (b := b) (by omega)
      rw [e1]
      exact ⟨s', rfl, e2, e3, e4, e5⟩
/-! the reference -/
theorem findM_loop {n : Nat} {s : StT} {t : FT} {vn : Nat} (h : MF s t) (hw : WFt t vn) {k a b : Nat} (hk : k < 100000) (ha : a < 100000) (hb : b < 100000) : ∀ (d m fu : Nat), m + d = t.1 → d < fu → (∀ f, f < m → ¬ isF t.2.1 t.2.2.1 t.2.2.2 k a b f) → ∃ r, f_X12_find_3 n fu s (nI k) (nI a) (nI b) (nI m) = some (r, s) ∧ FoundR (isF t.2.1 t.2.2.1 t.2.2.2 k a b) t.1 r := by
  obtain ⟨h1, h2⟩ := id h
  have hb2 := hw.2.1
  intro d
  induction d with
  | zero =>
    intro m fu hm hfu hno
    obtain ⟨fu, rfl⟩ : ∃ q, fu = q + 1 := ⟨fu - 1, by omega⟩
    rw [f_X12_find_3, h1, if_pos ((nI_leI (by omega) (by omega)).mpr (by omega))]
    exact ⟨-1, rfl, Or.inr ⟨fun f hf => hno f (by omega), rfl⟩⟩
  | succ d ih =>
    intro m fu hm hfu hno
    obtain ⟨fu, rfl⟩ : ∃ q, fu = q + 1 := ⟨fu - 1, by omega⟩
    rw [f_X12_find_3, h1, if_neg (fun e => absurd ((nI_leI (by omega) (by omega)).mp e) (by omega)), inB_nI (i := m) (N := 4200) (by omega) (by omega)]
    simp only [if_true, nI_cl (show m < 2 ^ 31 by omega)]
    obtain ⟨e1, e2, e3⟩ := h2 m (by omega)
    obtain ⟨b1, b2, b3⟩ := hw.bd (f := m) (by omega)
    rw [e1, e2, e3, nI_1]
    have go : ¬ isF t.2.1 t.2.2.1 t.2.2.2 k a b m → ∃ r, f_X12_find_3 n fu s (nI k) (nI a) (nI b) (nI (m + 1)) = some (r, s) ∧ FoundR (isF t.2.1 t.2.2.1 t.2.2.2 k a b) t.1 r := fun hx => ih (m + 1) fu (by omega) (by omega) (fun f hf => by
      by_cases c : f = m
      · rw [c]; exact hx
      · exact hno f (by omega))
    by_cases c1 : t.2.1 m = k
    · rw [if_pos (by rw [c1])]
      by_cases c2 : t.2.2.1 m = a
      · rw [if_pos (by rw [c2])]
        by_cases c3 : t.2.2.2 m = b
        · rw [if_pos (by rw [c3])]
          exact ⟨nI m, rfl, Or.inl ⟨m, by omega, ⟨c1, c2, c3⟩, rfl⟩⟩
        · rw [if_neg (fun e => c3 (nI_inj (by omega) (by omega) e))]
          exact go (fun hM => c3 hM.2.2)
      · rw [if_neg (fun e => c2 (nI_inj (by omega) (by omega) e))]
        exact go (fun hM => c2 hM.2.1)
    · rw [if_neg (fun e => c1 (nI_inj (by omega) (by omega) e))]
      exact go (fun hM => c1 hM.1)
theorem findM {n : Nat} (hn : 100000 ≤ n) {s : StT} {t : FT} {vn : Nat} (h : MF s t) (hw : WFt t vn) {k a b : Nat} (hk : k < 100000) (ha : a < 100000) (hb : b < 100000) : f_X12_find n s (nI k) (nI a) (nI b) = some (oI (lk t k a b t.1), s) := by
  have := hw.2.1
  obtain ⟨r, hr, hR⟩ := findM_loop (n := n) h hw hk ha hb t.1 0 n (by omega) (by omega) (fun f hf => by omega)
  rw [← found_lk hw hR]
  exact hr
theorem addM {n : Nat} {s : StT} {t : FT} {k a b : Nat} (h : MF s t) (hf : t.1 < 2000) : ∃ s', f_X12_add n s (nI k) (nI a) (nI b) = some (nI t.1, s') ∧ MF s' (addT t k a b) ∧ FrM s s' := by
  obtain ⟨h1, h2⟩ := id h
  unfold f_X12_add
  simp only [uA_1, uF_1, h1, inB_nI (show t.1 < 4200 by omega) (by omega), if_true]
  rw [nI_1, nI_m1]
  refine ⟨_, rfl, ⟨?_, ?_⟩, ?_, ?_, rfl⟩
  · simp [uF_1, addT]
  · intro f hf2
    have hf2 : f < t.1 + 1 := hf2
    simp [uA_21, uA_22, uF_2, uA_1, uF_1, upd_j, nI_cl (show t.1 < 2 ^ 31 by omega), addT]
    by_cases c : f = t.1
    · simp [c]
    · simp [c, h2 f (by omega)]
  · intro j hj
    simp [uF_1, uA_1, hj]
  · intro j q1 q2 q3
    simp [uA_21, uF_2, q1, q2, q3]
theorem joinedM {n : Nat} (hn : 100000 ≤ n) {s : StT} {t : FT} {vn k a b : Nat} (h : MF s t) (hw : WFt t vn) (hk : k < 100000) (ha : a < 100000) (hb : b < 100000) : ∃ s', f_X12_formulaOf n s (nI k) (nI a) (nI b) = some (oI (jn t k a b).1, s') ∧ MF s' (jn t k a b).2 ∧ FrM s s' := by
  unfold f_X12_formulaOf
  rw [findM hn h hw hk ha hb]
  simp only [bnd]
  have h2 := hw.2.1
  unfold jn
  cases e : lk t k a b t.1 with
  | some f =>
    have := (lk_some e).1
    rw [if_neg (show ¬ oI (some f) < 0 from nI_nneg (by omega))]
    exact ⟨s, rfl, h, FrM.rf s⟩
  | none =>
    rw [if_pos (show oI none < 0 from m1_neg)]
    dsimp only
    by_cases c : t.1 = 2000
    · rw [if_pos c, if_pos (by rw [h.1, c]; rfl)]
      exact ⟨s, rfl, h, FrM.rf s⟩
    · rw [if_neg c, if_neg (by rw [h.1]; exact fun e => c (nI_inj (b := 2000) (by omega) (by omega) e))]
      obtain ⟨s', e1, e2, e3⟩ := addM (n := n) h (k := k) (a := a) (b := b) (by omega)
      rw [e1]
      exact ⟨s', rfl, e2, e3⟩
