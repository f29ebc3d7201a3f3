/-! ===== the page: what is written ===== -/
def PgC (s : StT) (D : List Nat) : Prop := s.1 14 = nI (min D.length 8001) ∧ ∀ i b, i < 8000 → D[i]? = some b → s.2.1 13 i = nI b
def PgM (s : StT) (D : List Nat) : Prop := s.1 15 = nI (min D.length 8100) ∧ ∀ i b, i < 8100 → D[i]? = some b → s.2.1 8 i = nI b
def AgO (s s' : StT) : Prop := (∀ j, j ≠ 14 → s'.1 j = s.1 j) ∧ (∀ j, j ≠ 13 → s'.2.1 j = s.2.1 j) ∧ s'.2.2 = s.2.2
theorem AgO.rf (s : StT) : AgO s s := ⟨fun _ _ => rfl, fun _ _ => rfl, rfl⟩
theorem AgO.tr {a b c : StT} (h : AgO a b) (g : AgO b c) : AgO a c := ⟨fun j hj => (g.1 j hj).trans (h.1 j hj), fun j hj => (g.2.1 j hj).trans (h.2.1 j hj), g.2.2.trans h.2.2⟩
def AgQ (s s' : StT) : Prop := (∀ j, j ≠ 15 → s'.1 j = s.1 j) ∧ (∀ j, j ≠ 8 → s'.2.1 j = s.2.1 j) ∧ s'.2.2 = s.2.2
theorem AgQ.rf (s : StT) : AgQ s s := ⟨fun _ _ => rfl, fun _ _ => rfl, rfl⟩
theorem AgQ.tr {a b c : StT} (h : AgQ a b) (g : AgQ b c) : AgQ a c := ⟨fun j hj => (g.1 j hj).trans (h.1 j hj), fun j hj => (g.2.1 j hj).trans (h.2.1 j hj), g.2.2.trans h.2.2⟩
theorem byteI : ∀ b, b < 128 → vp_nar .byte (nI b).toInt8.toInt32 = nI b := by decide +kernel
theorem app_at {D : List Nat} {b c i : Nat} (h : (D ++ [b])[i]? = some c) : (i = D.length ∧ c = b) ∨ (i < D.length ∧ D[i]? = some c) := by
  rcases Nat.lt_trichotomy i D.length with e | e | e
  · rw [List.getElem?_append_left e] at h; exact Or.inr ⟨e, h⟩
  · subst e; rw [List.getElem?_append_right (Nat.le_refl _)] at h; simp at h; exact Or.inl ⟨rfl, h.symm⟩
  · rw [List.getElem?_append_right (by omega)] at h
    have : ([b] : List Nat)[i - D.length]? = none := by rw [List.getElem?_eq_none_iff]; simp; omega
    rw [this] at h; exact absurd h (by simp)
theorem putC {n : Nat} {s : StT} {D : List Nat} {b : Nat} (h : PgC s D) (hb : b < 128) : ∃ s', f_X10_put n s (nI b) = some s' ∧ PgC s' (D ++ [b]) ∧ AgO s s' := by
  have hl : (D ++ [b]).length = D.length + 1 := by simp
  have hend : ∀ s2 : StT, s2.1 14 = s.1 14 → f_X10_put_30 n s2 = some (uF s2 14 (nI (min (D.length + 1) 8001))) := by
    intro s2 h2
    unfold f_X10_put_30
    rw [h2, h.1, nI_1]
    by_cases c : D.length < 8001
    · rw [if_neg (show ¬ (8001 : Int32) < nI (min D.length 8001 + 1) from fun e => absurd ((nI_ltI (a := 8001) (by omega) (by omega)).mp e) (by omega)), show min D.length 8001 + 1 = min (D.length + 1) 8001 by omega]
    · rw [if_pos (show (8001 : Int32) < nI (min D.length 8001 + 1) from (nI_ltI (a := 8001) (by omega) (by omega)).mpr (by omega)), show min (D.length + 1) 8001 = 8001 by omega]
      rfl
  unfold f_X10_put
  rw [h.1, if_neg (nI_nneg (by omega))]
  by_cases c : D.length < 8000
  · rw [if_neg (show ¬ (8000 : Int32) ≤ nI (min D.length 8001) from fun e => absurd ((nI_leI (a := 8000) (by omega) (by omega)).mp e) (by omega)), inB_nI (show min D.length 8001 < 8000 by omega) (by omega), if_pos rfl, byteI b hb, hend (uA s 13 (nI (min D.length 8001)) (nI b)) rfl]
    refine ⟨_, rfl, ⟨by rw [hl]; rfl, fun i c hi hc => ?_⟩, fun j hj => by simp only [uF_1, hj, if_false]; rfl, fun j hj => by simp only [uF_2, uA_21, hj, if_false], rfl⟩
    simp only [uF_2, uA_21, if_true, upd_j, nI_cl (show min D.length 8001 < 2 ^ 31 by omega)]
    rcases app_at hc with ⟨e1, e2⟩ | ⟨e1, e2⟩
    · rw [if_pos (by omega), e2]
    · rw [if_neg (by omega)]; exact h.2 i c hi e2
  · rw [if_pos (show (8000 : Int32) ≤ nI (min D.length 8001) from (nI_leI (a := 8000) (by omega) (by omega)).mpr (by omega)), hend _ rfl]
    refine ⟨_, rfl, ⟨by rw [hl]; rfl, fun i c hi hc => ?_⟩, fun j hj => by simp only [uF_1, hj, if_false], fun j hj => rfl, rfl⟩
    rcases app_at hc with ⟨e1, e2⟩ | ⟨e1, e2⟩
    · omega
    · exact h.2 i c hi e2
theorem putM {n : Nat} {s : StT} {D : List Nat} {b : Nat} (h : PgM s D) (hb : b < 128) : ∃ s', f_X12_put n s (nI b) = some s' ∧ PgM s' (D ++ [b]) ∧ AgQ s s' := by
  have hl : (D ++ [b]).length = D.length + 1 := by simp
  unfold f_X12_put
  rw [h.1]
  by_cases c : D.length < 8100
  · rw [if_neg (show ¬ (8100 : Int32) ≤ nI (min D.length 8100) from fun e => absurd ((nI_leI (a := 8100) (by omega) (by omega)).mp e) (by omega)), inB_nI (show min D.length 8100 < 8100 by omega) (by omega), if_pos rfl, byteI b hb]
    simp only [uA_1, h.1, nI_1]
    refine ⟨_, rfl, ⟨by rw [hl, show min (D.length + 1) 8100 = min D.length 8100 + 1 by omega]; rfl, fun i c hi hc => ?_⟩, fun j hj => by simp only [uF_1, hj, if_false]; rfl, fun j hj => by simp only [uF_2, uA_21, hj, if_false], rfl⟩
    simp only [uF_2, uA_21, if_true, upd_j, nI_cl (show min D.length 8100 < 2 ^ 31 by omega)]
    rcases app_at hc with ⟨e1, e2⟩ | ⟨e1, e2⟩
    · rw [if_pos (by omega), e2]
    · rw [if_neg (by omega)]; exact h.2 i c hi e2
  · rw [if_pos (show (8100 : Int32) ≤ nI (min D.length 8100) from (nI_leI (a := 8100) (by omega) (by omega)).mpr (by omega))]
    refine ⟨_, rfl, ⟨by rw [hl, h.1, show min (D.length + 1) 8100 = min D.length 8100 by omega], fun i c hi hc => ?_⟩, AgQ.rf _⟩
    rcases app_at hc with ⟨e1, e2⟩ | ⟨e1, e2⟩
    · omega
    · exact h.2 i c hi e2
def putL (n : Nat) : List Nat → StT → Option StT
  | [], s => some s
  | b :: l, s => (f_X10_put n s (nI b)).bind fun s' => putL n l s'
def putR (n : Nat) : List Nat → StT → Option StT
  | [], s => some s
  | b :: l, s => (f_X12_put n s (nI b)).bind fun s' => putR n l s'
theorem putL_ok {n : Nat} : ∀ (l : List Nat) (s : StT) (D : List Nat), PgC s D → (∀ b, b ∈ l → b < 128) → ∃ s', putL n l s = some s' ∧ PgC s' (D ++ l) ∧ AgO s s' := by
  intro l
  induction l with
  | nil => intro s D h _; exact ⟨s, rfl, by rw [List.append_nil]; exact h, AgO.rf s⟩
  | cons b l ih =>
    intro s D h hb
    obtain ⟨s1, e1, e2, e3⟩ := putC (n := n) h (hb b (by simp))
    obtain ⟨s2, g1, g2, g3⟩ := ih s1 _ e2 (fun c hc => hb c (by simp [hc]))
    rw [putL, e1, Option.bind_some, g1]
    exact ⟨s2, rfl, by rw [List.append_assoc] at g2; exact g2, e3.tr g3⟩
theorem putR_ok {n : Nat} : ∀ (l : List Nat) (s : StT) (D : List Nat), PgM s D → (∀ b, b ∈ l → b < 128) → ∃ s', putR n l s = some s' ∧ PgM s' (D ++ l) ∧ AgQ s s' := by
  intro l
  induction l with
  | nil => intro s D h _; exact ⟨s, rfl, by rw [List.append_nil]; exact h, AgQ.rf s⟩
  | cons b l ih =>
    intro s D h hb
    obtain ⟨s1, e1, e2, e3⟩ := putM (n := n) h (hb b (by simp))
    obtain ⟨s2, g1, g2, g3⟩ := ih s1 _ e2 (fun c hc => hb c (by simp [hc]))
    rw [putR, e1, Option.bind_some, g1]
    exact ⟨s2, rfl, by rw [List.append_assoc] at g2; exact g2, e3.tr g3⟩
