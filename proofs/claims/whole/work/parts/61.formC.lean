theorem hsh_m {x y z : Int32} : nI (hsh x y z) &&& 1023 = nI (hsh x y z) := by
  rw [← (hsh_e x y z).1, Int32.and_assoc]
  rfl

/-! ===== Formulas F0 ===== -/
def CFF0 (s : StT) (fn : Nat) (kd fa fb : Nat → Nat) : Prop := s.1 6 = nI fn ∧ fn ≤ 2000 ∧ (∀ f, f < fn → s.2.1 2 f = nI (kd f) ∧ s.2.1 3 f = nI (fa f) ∧ s.2.1 4 f = nI (fb f)) ∧ (∀ c, c < 1024 → s.2.1 5 c = nI (lastH (hF kd fa fb) c fn)) ∧ ∀ f, f < fn → s.2.1 6 f = nI (lastH (hF kd fa fb) (hF kd fa fb f) f)
theorem hasF0 {n : Nat} {s : StT} {fn : Nat} (h : s.1 6 = nI fn) (hf : fn ≤ 2000) {f : Nat} (hfl : f < 2 ^ 31) : f_X1_has_F0 n s (nI f) = some (if f < fn then 1 else 0, s) := by
  unfold f_X1_has_F0
  rw [if_neg (nI_nneg hfl), h]
  by_cases c : f < fn
  · rw [if_neg (fun e => absurd ((nI_leI (by omega) hfl).mp e) (by omega)), if_neg (show ¬ (2000 : Int32) ≤ nI f from fun e => absurd ((nI_leI (a := 2000) (by omega) hfl).mp e) (by omega)), if_pos c]
  · rw [if_pos ((nI_leI (by omega) hfl).mpr (by omega)), if_neg c]
theorem hasF0_neg {n : Nat} {s : StT} {x : Int32} (hx : x < 0) : f_X1_has_F0 n s x = some (0, s) := by
  unfold f_X1_has_F0
  rw [if_pos hx]
theorem hasF0_any {n : Nat} {s : StT} {fn : Nat} (h : s.1 6 = nI fn) (hf : fn ≤ 2000) (x : Int32) : (∃ f, f < fn ∧ x = nI f ∧ f_X1_has_F0 n s x = some (1, s)) ∨ ((x < 0 ∨ ∃ f, fn ≤ f ∧ f < 2 ^ 31 ∧ x = nI f) ∧ f_X1_has_F0 n s x = some (0, s)) := by
  by_cases hx : x < 0
  · exact Or.inr ⟨Or.inl hx, hasF0_neg hx⟩
  · obtain ⟨f, hf31, rfl⟩ := nI_of hx
    by_cases c : f < fn
    · exact Or.inl ⟨f, c, rfl, by rw [hasF0 h hf hf31, if_pos c]⟩
    · exact Or.inr ⟨Or.inr ⟨f, by omega, hf31, rfl⟩, by rw [hasF0 h hf hf31, if_neg c]⟩
theorem kindOfF0 {n : Nat} {s : StT} {fn : Nat} {kd fa fb : Nat → Nat} (h : CFF0 s fn kd fa fb) {f : Nat} (hf : f < fn) : f_X1_kindOf_F0 n s (nI f) = some (nI (kd f), s) := by
  have := h.2.1
  unfold f_X1_kindOf_F0
  rw [hasF0 h.1 h.2.1 (by omega), if_pos hf]
  simp only [bnd]
  rw [if_neg (by decide), inB_nI (by omega) (by omega), if_pos rfl, nI_cl (by omega), (h.2.2.1 f hf).1]
theorem firstOfF0 {n : Nat} {s : StT} {fn : Nat} {kd fa fb : Nat → Nat} (h : CFF0 s fn kd fa fb) {f : Nat} (hf : f < fn) : f_X1_firstOf_F0 n s (nI f) = some (nI (fa f), s) := by
  have := h.2.1
  unfold f_X1_firstOf_F0
  rw [hasF0 h.1 h.2.1 (by omega), if_pos hf]
  simp only [bnd]
  rw [if_neg (by decide), inB_nI (by omega) (by omega), if_pos rfl, nI_cl (by omega), (h.2.2.1 f hf).2.1]
theorem secondOfF0 {n : Nat} {s : StT} {fn : Nat} {kd fa fb : Nat → Nat} (h : CFF0 s fn kd fa fb) {f : Nat} (hf : f < fn) : f_X1_secondOf_F0 n s (nI f) = some (nI (fb f), s) := by
  have := h.2.1
  unfold f_X1_secondOf_F0
  rw [hasF0 h.1 h.2.1 (by omega), if_pos hf]
  simp only [bnd]
  rw [if_neg (by decide), inB_nI (by omega) (by omega), if_pos rfl, nI_cl (by omega), (h.2.2.1 f hf).2.2]
theorem findF0_loop {n : Nat} {s : StT} {fn : Nat} {kd fa fb : Nat → Nat} (h : CFF0 s fn kd fa fb) (hfit : fitF fn kd fa fb) {k a b : Nat} (hk : k < 100000) (ha : a < 100000) (hb : b < 100000) : ∀ (j m fu seen : Nat), m ≤ fn → lastH (hF kd fa fb) (hsh (nI k) (nI a) (nI b)) m = j → seen + j ≤ fn → j < fu → ∃ r, f_X1_findIn_F0_17 n fu s (nI k) (nI a) (nI b) (nI j - 1) (nI seen) = some (r, s) ∧ FoundR (isF kd fa fb k a b) m r := by
  obtain ⟨h1, h2, h3, h4, h5⟩ := id h
  intro j
  induction j using Nat.strongRecOn with
  | ind j ih =>
    intro m fu seen hm hj hs hfu
    obtain ⟨fu, rfl⟩ : ∃ q, fu = q + 1 := ⟨fu - 1, by omega⟩
    rw [f_X1_findIn_F0_17]
    have none_ : j = 0 → FoundR (isF kd fa fb k a b) m (-1) := fun hj0 => Or.inr ⟨fun f hf hM => by
      refine lastH_0 (hj.trans hj0) f hf ?_
      unfold hF
      rw [hM.1, hM.2.1, hM.2.2], rfl⟩
    by_cases c : fn ≤ seen
    · rw [h1, if_pos ((nI_leI (by omega) (by omega)).mpr c)]
      exact ⟨-1, rfl, none_ (by omega)⟩
    · rw [h1, if_neg (fun e => c ((nI_leI (by omega) (by omega)).mp e))]
      rcases Nat.eq_zero_or_pos j with hj0 | hjp
      · rw [hj0, nI_neg1, if_pos (by decide)]
        exact ⟨-1, rfl, none_ hj0⟩
      · obtain ⟨f, rfl⟩ : ∃ q, j = q + 1 := ⟨j - 1, by omega⟩
        obtain ⟨g1, g2, g3⟩ := lastH_s hj
        rw [nI_m1, if_neg (nI_nneg (by omega)), if_neg (show ¬ (2000 : Int32) ≤ nI f from fun e => absurd ((nI_leI (a := 2000) (by omega) (by omega)).mp e) (by omega)), inB_nI (i := f) (N := 2000) (by omega) (by omega)]
        simp only [if_true, nI_cl (show f < 2 ^ 31 by omega)]
        obtain ⟨e1, e2, e3⟩ := h3 f (by omega)
        obtain ⟨b1, b2, b3⟩ := hfit.2 f (by omega)
        rw [e1, e2, e3]
        have next : f_X1_findIn_F0_77 n (f_X1_findIn_F0_17 n fu) s (nI k) (nI a) (nI b) (nI f) (nI seen) = f_X1_findIn_F0_17 n fu s (nI k) (nI a) (nI b) (nI (lastH (hF kd fa fb) (hsh (nI k) (nI a) (nI b)) f) - 1) (nI (seen + 1)) := by
          unfold f_X1_findIn_F0_77
          rw [inB_nI (by omega) (by omega), if_pos rfl, nI_cl (by omega), h5 f (by omega), g2, nI_1]
        have go : ¬ isF kd fa fb k a b f → ∃ r, f_X1_findIn_F0_17 n fu s (nI k) (nI a) (nI b) (nI (lastH (hF kd fa fb) (hsh (nI k) (nI a) (nI b)) f) - 1) (nI (seen + 1)) = some (r, s) ∧ FoundR (isF kd fa fb k a b) m r := by
          intro hno
          have hle := lastH_le (hF kd fa fb) (hsh (nI k) (nI a) (nI b)) f
          obtain ⟨r, hr, hR⟩ := ih _ (by omega) f fu (seen + 1) (by omega) rfl (by omega) (by omega)
          refine ⟨r, hr, ?_⟩
          rcases hR with ⟨g, q1, q2, q3⟩ | ⟨q1, q2⟩
          · exact Or.inl ⟨g, by omega, q2, q3⟩
          · refine Or.inr ⟨fun g hg hM => ?_, q2⟩
            by_cases c1 : g < f
            · exact q1 g c1 hM
            · by_cases c2 : g = f
              · rw [c2] at hM; exact hno hM
              · refine g3 g (by omega) hg ?_
                unfold hF
                rw [hM.1, hM.2.1, hM.2.2]
        rw [next]
        by_cases c1 : kd f = k
        · rw [if_pos (by rw [c1])]
          by_cases c2 : fa f = a
          · rw [if_pos (by rw [c2])]
            by_cases c3 : fb f = b
            · rw [if_pos (by rw [c3])]
              exact ⟨nI f, rfl, Or.inl ⟨f, by omega, ⟨c1, c2, c3⟩, rfl⟩⟩
            · rw [if_neg (fun e => c3 (nI_inj (by omega) (by omega) e))]
              exact go (fun hM => c3 hM.2.2)
          · rw [if_neg (fun e => c2 (nI_inj (by omega) (by omega) e))]
            exact go (fun hM => c2 hM.2.1)
        · rw [if_neg (fun e => c1 (nI_inj (by omega) (by omega) e))]
          exact go (fun hM => c1 hM.1)
theorem findF0 {n : Nat} (hn : 100000 ≤ n) {s : StT} {fn : Nat} {kd fa fb : Nat → Nat} (h : CFF0 s fn kd fa fb) (hfit : fitF fn kd fa fb) {k a b : Nat} (hk : k < 100000) (ha : a < 100000) (hb : b < 100000) : ∃ r, f_X1_find_F0 n s (nI k) (nI a) (nI b) = some (r, s) ∧ FoundR (isF kd fa fb k a b) fn r := by
  have hle := lastH_le (hF kd fa fb) (hsh (nI k) (nI a) (nI b)) fn
  have := h.2.1
  obtain ⟨e1, e2⟩ := hsh_e (nI k) (nI a) (nI b)
  obtain ⟨r, hr, hR⟩ := findF0_loop (n := n) h hfit hk ha hb _ fn n 0 (Nat.le_refl _) rfl (by omega) (by omega)
  refine ⟨r, ?_, hR⟩
  unfold f_X1_find_F0 f_X1_chainOf f_X1_findIn_F0
  simp only [bnd]
  rw [e1, hsh_m, inB_nI e2 (by omega), if_pos rfl, nI_cl (by omega), h.2.2.2.1 _ e2]
  rw [show (0 : Int32) = nI 0 from rfl, hr]
  rfl

/-- a formula laid behind all -/
def f_X1_add_F0 (n : Nat) (st : StT) (x1 x2 x3 : Int32) : Option (Int32 × StT) := (f_X1_chainOf n st x1 x2 x3).bind fun q => f_X1_addTo_F0 n q.2 q.1 x1 x2 x3
theorem joinedF0_eq (n : Nat) (st : StT) (x1 x2 x3 : Int32) : f_X1_joined_F0 n st x1 x2 x3 = (f_X1_find_F0 n st x1 x2 x3).bind fun q4 => (if q4.1 < 0 then ((f_X1_add_F0 n q4.2 x1 x2 x3).bind fun q23 => (some (q23.1, q23.2))) else (some (q4.1, q4.2))) := by
  unfold f_X1_joined_F0 f_X1_find_F0 f_X1_add_F0 f_X1_chainOf
  simp only [bnd]
  generalize f_X1_findIn_F0 n st _ x1 x2 x3 = z
  cases z with
  | none => rfl
  | some q => rfl
/-- one formula more -/
theorem addF0 {n : Nat} {s : StT} {fn : Nat} {kd fa fb : Nat → Nat} (h : CFF0 s fn kd fa fb) {k a b : Nat} (hfn : fn < 2000) : ∃ s', f_X1_add_F0 n s (nI k) (nI a) (nI b) = some (nI fn, s') ∧ CFF0 s' (fn + 1) (fun f => if f = fn then k else kd f) (fun f => if f = fn then a else fa f) (fun f => if f = fn then b else fb f) ∧ (∀ j, j ≠ 6 → s'.1 j = s.1 j) ∧ (∀ j, j ≠ 2 → j ≠ 3 → j ≠ 4 → j ≠ 5 → j ≠ 6 → s'.2.1 j = s.2.1 j) ∧ s'.2.2 = s.2.2 := by
  obtain ⟨h1, h2, h3, h4, h5⟩ := id h
  obtain ⟨e1, e2⟩ := hsh_e (nI k) (nI a) (nI b)
  unfold f_X1_add_F0 f_X1_chainOf f_X1_addTo_F0
  simp only [bnd]
  rw [h1, if_neg (nI_nneg (by omega)), if_pos (show nI fn < (2000 : Int32) from (nI_ltI (b := 2000) (by omega) (by omega)).mpr hfn), e1, hsh_m, inB_nI (i := fn) (N := 2000) hfn (by omega), inB_nI e2 (by omega)]
  simp only [if_true, uA_1, uF_1, h1]
  refine ⟨_, rfl, ?_, ?_, ?_, rfl⟩
  · have hh : ∀ f, f < fn → hF (fun f => if f = fn then k else kd f) (fun f => if f = fn then a else fa f) (fun f => if f = fn then b else fb f) f = hF kd fa fb f := fun f hf => by
      unfold hF
      simp only [if_neg (show f ≠ fn by omega)]
    have hfn2 : hF (fun f => if f = fn then k else kd f) (fun f => if f = fn then a else fa f) (fun f => if f = fn then b else fb f) fn = hsh (nI k) (nI a) (nI b) := by
      unfold hF
      simp only [if_true]
    refine ⟨?_, by omega, ?_, ?_, ?_⟩
    · simp [uA_1, uF_1, h1, nI_1]
    · intro f hf
      simp [uA_21, uA_22, uF_2, uA_1, uF_1, upd_j, nI_cl (show fn < 2 ^ 31 by omega)]
      by_cases c : f = fn
      · simp [c]
      · simp [c, h3 f (by omega)]
    · intro c hc
      rw [lastH_up hh, hfn2]
      simp [uA_21, uA_22, uF_2, uA_1, uF_1, upd_j, nI_cl (show fn < 2 ^ 31 by omega), nI_cl (show hsh (nI k) (nI a) (nI b) < 2 ^ 31 by omega), h1, nI_1]
      by_cases q : hsh (nI k) (nI a) (nI b) = c
      · simp [q]
      · simp [q, Ne.symm q, h4 c hc]
    · intro f hf
      by_cases c : f = fn
      · subst c
        rw [hfn2, lastH_congr hh]
        simp [uA_21, uA_22, uF_2, uA_1, uF_1, upd_j, nI_cl (show f < 2 ^ 31 by omega), nI_cl (show hsh (nI k) (nI a) (nI b) < 2 ^ 31 by omega), h4 _ e2]
      · rw [hh f (by omega), lastH_congr (fun g hg => hh g (by omega))]
        simp [uA_21, uA_22, uF_2, uA_1, uF_1, upd_j, nI_cl (show fn < 2 ^ 31 by omega), c, h5 f (by omega)]
  · intro j hj
    simp [uA_1, uF_1, hj]
  · intro j q1 q2 q3 q4 q5
    simp [uA_21, uF_2, q1, q2, q3, q4, q5]
theorem addF0_full {n : Nat} {s : StT} {x y z : Int32} (h : s.1 6 = nI 2000) : f_X1_add_F0 n s x y z = some (-1, s) := by
  unfold f_X1_add_F0 f_X1_chainOf f_X1_addTo_F0
  simp only [bnd]
  rw [h, if_neg (by decide), if_neg (by decide)]

/-! ===== Formulas F1 ===== -/
def CFF1 (s : StT) (fn : Nat) (kd fa fb : Nat → Nat) : Prop := s.1 25 = nI fn ∧ fn ≤ 3000 ∧ (∀ f, f < fn → s.2.1 35 f = nI (kd f) ∧ s.2.1 36 f = nI (fa f) ∧ s.2.1 37 f = nI (fb f)) ∧ (∀ c, c < 1024 → s.2.1 38 c = nI (lastH (hF kd fa fb) c fn)) ∧ ∀ f, f < fn → s.2.1 39 f = nI (lastH (hF kd fa fb) (hF kd fa fb f) f)
theorem hasF1 {n : Nat} {s : StT} {fn : Nat} (h : s.1 25 = nI fn) (hf : fn ≤ 3000) {f : Nat} (hfl : f < 2 ^ 31) : f_X1_has_F1 n s (nI f) = some (if f < fn then 1 else 0, s) := by
  unfold f_X1_has_F1
  rw [if_neg (nI_nneg hfl), h]
  by_cases c : f < fn
  · rw [if_neg (fun e => absurd ((nI_leI (by omega) hfl).mp e) (by omega)), if_neg (show ¬ (3000 : Int32) ≤ nI f from fun e => absurd ((nI_leI (a := 3000) (by omega) hfl).mp e) (by omega)), if_pos c]
  · rw [if_pos ((nI_leI (by omega) hfl).mpr (by omega)), if_neg c]
theorem hasF1_neg {n : Nat} {s : StT} {x : Int32} (hx : x < 0) : f_X1_has_F1 n s x = some (0, s) := by
  unfold f_X1_has_F1
  rw [if_pos hx]
theorem hasF1_any {n : Nat} {s : StT} {fn : Nat} (h : s.1 25 = nI fn) (hf : fn ≤ 3000) (x : Int32) : (∃ f, f < fn ∧ x = nI f ∧ f_X1_has_F1 n s x = some (1, s)) ∨ ((x < 0 ∨ ∃ f, fn ≤ f ∧ f < 2 ^ 31 ∧ x = nI f) ∧ f_X1_has_F1 n s x = some (0, s)) := by
  by_cases hx : x < 0
  · exact Or.inr ⟨Or.inl hx, hasF1_neg hx⟩
  · obtain ⟨f, hf31, rfl⟩ := nI_of hx
    by_cases c : f < fn
    · exact Or.inl ⟨f, c, rfl, by rw [hasF1 h hf hf31, if_pos c]⟩
    · exact Or.inr ⟨Or.inr ⟨f, by omega, hf31, rfl⟩, by rw [hasF1 h hf hf31, if_neg c]⟩
theorem kindOfF1 {n : Nat} {s : StT} {fn : Nat} {kd fa fb : Nat → Nat} (h : CFF1 s fn kd fa fb) {f : Nat} (hf : f < fn) : f_X1_kindOf_F1 n s (nI f) = some (nI (kd f), s) := by
  have := h.2.1
  unfold f_X1_kindOf_F1
  rw [hasF1 h.1 h.2.1 (by omega), if_pos hf]
  simp only [bnd]
  rw [if_neg (by decide), inB_nI (by omega) (by omega), if_pos rfl, nI_cl (by omega), (h.2.2.1 f hf).1]
theorem firstOfF1 {n : Nat} {s : StT} {fn : Nat} {kd fa fb : Nat → Nat} (h : CFF1 s fn kd fa fb) {f : Nat} (hf : f < fn) : f_X1_firstOf_F1 n s (nI f) = some (nI (fa f), s) := by
  have := h.2.1
  unfold f_X1_firstOf_F1
  rw [hasF1 h.1 h.2.1 (by omega), if_pos hf]
  simp only [bnd]
  rw [if_neg (by decide), inB_nI (by omega) (by omega), if_pos rfl, nI_cl (by omega), (h.2.2.1 f hf).2.1]
theorem secondOfF1 {n : Nat} {s : StT} {fn : Nat} {kd fa fb : Nat → Nat} (h : CFF1 s fn kd fa fb) {f : Nat} (hf : f < fn) : f_X1_secondOf_F1 n s (nI f) = some (nI (fb f), s) := by
  have := h.2.1
  unfold f_X1_secondOf_F1
  rw [hasF1 h.1 h.2.1 (by omega), if_pos hf]
  simp only [bnd]
  rw [if_neg (by decide), inB_nI (by omega) (by omega), if_pos rfl, nI_cl (by omega), (h.2.2.1 f hf).2.2]
theorem findF1_loop {n : Nat} {s : StT} {fn : Nat} {kd fa fb : Nat → Nat} (h : CFF1 s fn kd fa fb) (hfit : fitF fn kd fa fb) {k a b : Nat} (hk : k < 100000) (ha : a < 100000) (hb : b < 100000) : ∀ (j m fu seen : Nat), m ≤ fn → lastH (hF kd fa fb) (hsh (nI k) (nI a) (nI b)) m = j → seen + j ≤ fn → j < fu → ∃ r, f_X1_findIn_F1_17 n fu s (nI k) (nI a) (nI b) (nI j - 1) (nI seen) = some (r, s) ∧ FoundR (isF kd fa fb k a b) m r := by
  obtain ⟨h1, h2, h3, h4, h5⟩ := id h
  intro j
  induction j using Nat.strongRecOn with
  | ind j ih =>
    intro m fu seen hm hj hs hfu
    obtain ⟨fu, rfl⟩ : ∃ q, fu = q + 1 := ⟨fu - 1, by omega⟩
    rw [f_X1_findIn_F1_17]
    have none_ : j = 0 → FoundR (isF kd fa fb k a b) m (-1) := fun hj0 => Or.inr ⟨fun f hf hM => by
      refine lastH_0 (hj.trans hj0) f hf ?_
      unfold hF
      rw [hM.1, hM.2.1, hM.2.2], rfl⟩
    by_cases c : fn ≤ seen
    · rw [h1, if_pos ((nI_leI (by omega) (by omega)).mpr c)]
      exact ⟨-1, rfl, none_ (by omega)⟩
    · rw [h1, if_neg (fun e => c ((nI_leI (by omega) (by omega)).mp e))]
      rcases Nat.eq_zero_or_pos j with hj0 | hjp
      · rw [hj0, nI_neg1, if_pos (by decide)]
        exact ⟨-1, rfl, none_ hj0⟩
      · obtain ⟨f, rfl⟩ : ∃ q, j = q + 1 := ⟨j - 1, by omega⟩
        obtain ⟨g1, g2, g3⟩ := lastH_s hj
        rw [nI_m1, if_neg (nI_nneg (by omega)), if_neg (show ¬ (3000 : Int32) ≤ nI f from fun e => absurd ((nI_leI (a := 3000) (by omega) (by omega)).mp e) (by omega)), inB_nI (i := f) (N := 3000) (by omega) (by omega)]
        simp only [if_true, nI_cl (show f < 2 ^ 31 by omega)]
        obtain ⟨e1, e2, e3⟩ := h3 f (by omega)
        obtain ⟨b1, b2, b3⟩ := hfit.2 f (by omega)
        rw [e1, e2, e3]
        have next : f_X1_findIn_F1_77 n (f_X1_findIn_F1_17 n fu) s (nI k) (nI a) (nI b) (nI f) (nI seen) = f_X1_findIn_F1_17 n fu s (nI k) (nI a) (nI b) (nI (lastH (hF kd fa fb) (hsh (nI k) (nI a) (nI b)) f) - 1) (nI (seen + 1)) := by
          unfold f_X1_findIn_F1_77
          rw [inB_nI (by omega) (by omega), if_pos rfl, nI_cl (by omega), h5 f (by omega), g2, nI_1]
        have go : ¬ isF kd fa fb k a b f → ∃ r, f_X1_findIn_F1_17 n fu s (nI k) (nI a) (nI b) (nI (lastH (hF kd fa fb) (hsh (nI k) (nI a) (nI b)) f) - 1) (nI (seen + 1)) = some (r, s) ∧ FoundR (isF kd fa fb k a b) m r := by
          intro hno
          have hle := lastH_le (hF kd fa fb) (hsh (nI k) (nI a) (nI b)) f
          obtain ⟨r, hr, hR⟩ := ih _ (by omega) f fu (seen + 1) (by omega) rfl (by omega) (by omega)
          refine ⟨r, hr, ?_⟩
          rcases hR with ⟨g, q1, q2, q3⟩ | ⟨q1, q2⟩
          · exact Or.inl ⟨g, by omega, q2, q3⟩
          · refine Or.inr ⟨fun g hg hM => ?_, q2⟩
            by_cases c1 : g < f
            · exact q1 g c1 hM
            · by_cases c2 : g = f
              · rw [c2] at hM; exact hno hM
              · refine g3 g (by omega) hg ?_
                unfold hF
                rw [hM.1, hM.2.1, hM.2.2]
        rw [next]
        by_cases c1 : kd f = k
        · rw [if_pos (by rw [c1])]
          by_cases c2 : fa f = a
          · rw [if_pos (by rw [c2])]
            by_cases c3 : fb f = b
            · rw [if_pos (by rw [c3])]
              exact ⟨nI f, rfl, Or.inl ⟨f, by omega, ⟨c1, c2, c3⟩, rfl⟩⟩
            · rw [if_neg (fun e => c3 (nI_inj (by omega) (by omega) e))]
              exact go (fun hM => c3 hM.2.2)
          · rw [if_neg (fun e => c2 (nI_inj (by omega) (by omega) e))]
            exact go (fun hM => c2 hM.2.1)
        · rw [if_neg (fun e => c1 (nI_inj (by omega) (by omega) e))]
          exact go (fun hM => c1 hM.1)
theorem findF1 {n : Nat} (hn : 100000 ≤ n) {s : StT} {fn : Nat} {kd fa fb : Nat → Nat} (h : CFF1 s fn kd fa fb) (hfit : fitF fn kd fa fb) {k a b : Nat} (hk : k < 100000) (ha : a < 100000) (hb : b < 100000) : ∃ r, f_X1_find_F1 n s (nI k) (nI a) (nI b) = some (r, s) ∧ FoundR (isF kd fa fb k a b) fn r := by
  have hle := lastH_le (hF kd fa fb) (hsh (nI k) (nI a) (nI b)) fn
  have := h.2.1
  obtain ⟨e1, e2⟩ := hsh_e (nI k) (nI a) (nI b)
  obtain ⟨r, hr, hR⟩ := findF1_loop (n := n) h hfit hk ha hb _ fn n 0 (Nat.le_refl _) rfl (by omega) (by omega)
  refine ⟨r, ?_, hR⟩
  unfold f_X1_find_F1 f_X1_chainOf f_X1_findIn_F1
  simp only [bnd]
  rw [e1, hsh_m, inB_nI e2 (by omega), if_pos rfl, nI_cl (by omega), h.2.2.2.1 _ e2]
  rw [show (0 : Int32) = nI 0 from rfl, hr]
  rfl

/-- a formula laid behind all -/
def f_X1_add_F1 (n : Nat) (st : StT) (x1 x2 x3 : Int32) : Option (Int32 × StT) := (f_X1_chainOf n st x1 x2 x3).bind fun q => f_X1_addTo_F1 n q.2 q.1 x1 x2 x3
theorem joinedF1_eq (n : Nat) (st : StT) (x1 x2 x3 : Int32) : f_X1_joined_F1 n st x1 x2 x3 = (f_X1_find_F1 n st x1 x2 x3).bind fun q4 => (if q4.1 < 0 then ((f_X1_add_F1 n q4.2 x1 x2 x3).bind fun q23 => (some (q23.1, q23.2))) else (some (q4.1, q4.2))) := by
  unfold f_X1_joined_F1 f_X1_find_F1 f_X1_add_F1 f_X1_chainOf
  simp only [bnd]
  generalize f_X1_findIn_F1 n st _ x1 x2 x3 = z
  cases z with
  | none => rfl
  | some q => rfl
/-- one formula more -/
theorem addF1 {n : Nat} {s : StT} {fn : Nat} {kd fa fb : Nat → Nat} (h : CFF1 s fn kd fa fb) {k a b : Nat} (hfn : fn < 3000) : ∃ s', f_X1_add_F1 n s (nI k) (nI a) (nI b) = some (nI fn, s') ∧ CFF1 s' (fn + 1) (fun f => if f = fn then k else kd f) (fun f => if f = fn then a else fa f) (fun f => if f = fn then b else fb f) ∧ (∀ j, j ≠ 25 → s'.1 j = s.1 j) ∧ (∀ j, j ≠ 35 → j ≠ 36 → j ≠ 37 → j ≠ 38 → j ≠ 39 → s'.2.1 j = s.2.1 j) ∧ s'.2.2 = s.2.2 := by
  obtain ⟨h1, h2, h3, h4, h5⟩ := id h
  obtain ⟨e1, e2⟩ := hsh_e (nI k) (nI a) (nI b)
  unfold f_X1_add_F1 f_X1_chainOf f_X1_addTo_F1
  simp only [bnd]
  rw [h1, if_neg (nI_nneg (by omega)), if_pos (show nI fn < (3000 : Int32) from (nI_ltI (b := 3000) (by omega) (by omega)).mpr hfn), e1, hsh_m, inB_nI (i := fn) (N := 3000) hfn (by omega), inB_nI e2 (by omega)]
  simp only [if_true, uA_1, uF_1, h1]
  refine ⟨_, rfl, ?_, ?_, ?_, rfl⟩
  · have hh : ∀ f, f < fn → hF (fun f => if f = fn then k else kd f) (fun f => if f = fn then a else fa f) (fun f => if f = fn then b else fb f) f = hF kd fa fb f := fun f hf => by
      unfold hF
      simp only [if_neg (show f ≠ fn by omega)]
    have hfn2 : hF (fun f => if f = fn then k else kd f) (fun f => if f = fn then a else fa f) (fun f => if f = fn then b else fb f) fn = hsh (nI k) (nI a) (nI b) := by
      unfold hF
      simp only [if_true]
    refine ⟨?_, by omega, ?_, ?_, ?_⟩
    · simp [uA_1, uF_1, h1, nI_1]
    · intro f hf
      simp [uA_21, uA_22, uF_2, uA_1, uF_1, upd_j, nI_cl (show fn < 2 ^ 31 by omega)]
      by_cases c : f = fn
      · simp [c]
      · simp [c, h3 f (by omega)]
    · intro c hc
      rw [lastH_up hh, hfn2]
      simp [uA_21, uA_22, uF_2, uA_1, uF_1, upd_j, nI_cl (show fn < 2 ^ 31 by omega), nI_cl (show hsh (nI k) (nI a) (nI b) < 2 ^ 31 by omega), h1, nI_1]
      by_cases q : hsh (nI k) (nI a) (nI b) = c
      · simp [q]
      · simp [q, Ne.symm q, h4 c hc]
    · intro f hf
      by_cases c : f = fn
      · subst c
        rw [hfn2, lastH_congr hh]
        simp [uA_21, uA_22, uF_2, uA_1, uF_1, upd_j, nI_cl (show f < 2 ^ 31 by omega), nI_cl (show hsh (nI k) (nI a) (nI b) < 2 ^ 31 by omega), h4 _ e2]
      · rw [hh f (by omega), lastH_congr (fun g hg => hh g (by omega))]
        simp [uA_21, uA_22, uF_2, uA_1, uF_1, upd_j, nI_cl (show fn < 2 ^ 31 by omega), c, h5 f (by omega)]
  · intro j hj
    simp [uA_1, uF_1, hj]
  · intro j q1 q2 q3 q4 q5
    simp [uA_21, uF_2, q1, q2, q3, q4, q5]
theorem addF1_full {n : Nat} {s : StT} {x y z : Int32} (h : s.1 25 = nI 3000) : f_X1_add_F1 n s x y z = some (-1, s) := by
  unfold f_X1_add_F1 f_X1_chainOf f_X1_addTo_F1
  simp only [bnd]
  rw [h, if_neg (by decide), if_neg (by decide)]
