/-! ===== worlds ===== -/
def ov (dp : Nat → Nat) (w : Nat) : Nat → Nat → Bool
  | 0, k => decide (k = w)
  | d + 1, k => if k ≤ w then decide (k = w) else ov dp w d (dp k)
/-- world k is above world w -/
def Ab (dp : Nat → Nat) (w k : Nat) : Bool := ov dp w k k
theorem ov_fuel {dp : Nat → Nat} {w dn : Nat} (hd : ∀ k, 0 < k → k < dn → dp k < k) : ∀ (d k : Nat), k < dn → k ≤ d → ov dp w d k = Ab dp w k := by
  intro d
  induction d using Nat.strongRecOn with
  | ind d ih =>
    intro k hk hkd
    unfold Ab
    rcases Nat.eq_or_lt_of_le hkd with e | h
    · rw [e]
    · cases d with
      | zero => omega
      | succ d =>
        cases k with
        | zero =>
          rw [ov, ov, if_pos (Nat.zero_le w)]
        | succ k =>
          rw [ov, ov]
          split
          · rfl
          · have := hd (k + 1) (by omega) hk
            rw [ih d (by omega) _ (by omega) (by omega), ih k (by omega) _ (by omega) (by omega)]
theorem Ab_le {dp : Nat → Nat} {w k : Nat} (h : k ≤ w) : Ab dp w k = decide (k = w) := by
  unfold Ab
  cases k with
  | zero => rfl
  | succ k => rw [ov, if_pos h]
theorem Ab_up {dp : Nat → Nat} {w k dn : Nat} (hd : ∀ k, 0 < k → k < dn → dp k < k) (hk : k < dn) (h : w < k) : Ab dp w k = Ab dp w (dp k) := by
  have h1 := hd k (by omega) hk
  unfold Ab
  cases k with
  | zero => omega
  | succ k =>
    rw [ov, if_neg (by omega)]
    exact ov_fuel hd k _ (by omega) (by omega)
theorem op_clear {n : Nat} {sC sM : StT} {dn : Nat} {dp : Nat → Nat} {df : Nat → Int32} (h : RelD sC sM dn dp df) : f_X11_clear n sC = some (nI dn, uA (uF sC 27 1) 43 0 0) ∧ f_X12_clear n sM = some (nI dn, uA (uA (uF sM 36 1) 53 0 (-1)) 54 0 0) ∧ RelD (uA (uF sC 27 1) 43 0 0) (uA (uA (uF sM 36 1) 53 0 (-1)) 54 0 0) 1 dp (fun _ => 0) := by
  obtain ⟨h1, h2, h3, h4, h5, h6, h7, h8⟩ := h
  refine ⟨?_, ?_, Nat.le_refl 1, by omega, rfl, rfl, fun w hw => ?_, ?_, ?_, fun w w1 w2 => by omega⟩
  · unfold f_X11_clear f_X9_many f_X9_drop
    simp only [bnd]
    rw [show inB 0 60 = true by decide, if_pos rfl, h3]
    rfl
  · unfold f_X12_clear
    rw [show inB 0 60 = true by decide, if_pos rfl, if_pos rfl, h4]
  · have : w = 0 := by omega
    subst this
    exact ⟨rfl, rfl⟩
  · exact h6
  · rfl
theorem hasD {n : Nat} {s : StT} {dn : Nat} (h : s.1 27 = nI dn) (hd : dn ≤ 60) {w : Nat} (hw : w < 2 ^ 31) : f_X9_has n s (nI w) = some (if w < dn then 1 else 0, s) := by
  unfold f_X9_has
  rw [if_neg (nI_nneg hw), h]
  by_cases c : w < dn
  · rw [if_neg (fun e => absurd ((nI_leI (by omega) hw).mp e) (by omega)), if_neg (show ¬ (60 : Int32) ≤ nI w from fun e => absurd ((nI_leI (a := 60) (by omega) hw).mp e) (by omega)), if_pos c]
  · rw [if_pos ((nI_leI (by omega) hw).mpr (by omega)), if_neg c]
theorem hasD_neg {n : Nat} {s : StT} {x : Int32} (hx : x < 0) : f_X9_has n s x = some (0, s) := by
  unfold f_X9_has; rw [if_pos hx]
theorem hasV {n : Nat} {s : StT} {vn : Nat} (h : s.1 7 = nI vn) (hd : vn ≤ 24) {v : Nat} (hv : v < 2 ^ 31) : f_X1_hasVariable_F0 n s (nI v) = some (if v < vn then 1 else 0, s) := by
  unfold f_X1_hasVariable_F0
  rw [if_neg (nI_nneg hv), h]
  by_cases c : v < vn
  · rw [if_neg (fun e => absurd ((nI_leI (by omega) hv).mp e) (by omega)), if_neg (show ¬ (24 : Int32) ≤ nI v from fun e => absurd ((nI_leI (a := 24) (by omega) hv).mp e) (by omega)), if_pos c]
  · rw [if_pos ((nI_leI (by omega) hv).mpr (by omega)), if_neg c]
theorem hasV_neg {n : Nat} {s : StT} {x : Int32} (hx : x < 0) : f_X1_hasVariable_F0 n s x = some (0, s) := by
  unfold f_X1_hasVariable_F0; rw [if_pos hx]
theorem op_world {n : Nat} {sC sM : StT} {dn : Nat} {dp : Nat → Nat} {df : Nat → Int32} (h : RelD sC sM dn dp df) (x : Int32) : (∃ r, f_X11_world n sC x = some (r, sC) ∧ f_X12_world n sM x = some (r, sM)) ∨ ∃ (r : Int32) (sC' sM' : StT) (p : Nat), f_X11_world n sC x = some (r, sC') ∧ f_X12_world n sM x = some (r, sM') ∧ dn < 60 ∧ p < dn ∧ sC' = uF (uA (uA sC 42 (nI dn) (nI p)) 43 (nI dn) (df p)) 27 (nI (dn + 1)) ∧ sM' = uF (uA (uA sM 53 (nI dn) (nI p)) 54 (nI dn) (df p)) 36 (nI (dn + 1)) := by
  obtain ⟨h1, h2, h3, h4, h5, h6, h7, h8⟩ := h
  unfold f_X11_world f_X12_world
  by_cases hx : x < 0
  · rw [hasD_neg hx, if_pos hx]
    simp only [bnd, if_true]
    exact Or.inl ⟨_, rfl, rfl⟩
  obtain ⟨p, hp, rfl⟩ := nI_of hx
  rw [if_neg hx, hasD h3 h2 hp, h4]
  by_cases c : p < dn
  · rw [if_pos c, if_pos ((nI_ltI hp (by omega)).mpr c)]
    simp only [bnd, i10, if_false]
    unfold f_X9_grow
    rw [hasD h3 h2 hp, if_pos c]
    simp only [bnd, i10, if_false]
    rw [h3]
    by_cases q : dn < 60
    · rw [if_pos (show nI dn < (60 : Int32) from (nI_ltI (b := 60) (by omega) (by omega)).mpr q), if_neg (show ¬ nI dn = (60 : Int32) from fun e => absurd (nI_inj (b := 60) (by omega) (by omega) e) (by omega)), inB_nI (show p < 60 by omega) (by omega)]
      simp only [if_true, nI_cl hp, (h5 p c).1, uA_1, h4, inB_nI (show dn < 60 by omega) (by omega), uA_21, upd_j]
      unfold f_X9_lay
      rw [if_neg (nI_nneg (by omega)), if_neg (show ¬ (60 : Int32) ≤ nI dn from fun e => absurd ((nI_leI (a := 60) (by omega) (by omega)).mp e) (by omega)), inB_nI (show dn < 60 by omega) (by omega)]
      simp only [if_true, bnd, uF_1, uA_1, h3, h4, nI_1, nI_m1]
      refine Or.inr ⟨_, _, _, p, rfl, ?_, q, c, rfl, rfl⟩
      simp [(h5 p c).2]
    · have : dn = 60 := by omega
      subst this
      rw [if_neg (by decide), if_pos (by decide)]
      exact Or.inl ⟨_, rfl, rfl⟩
  · rw [if_neg c, if_neg (fun e => c ((nI_ltI hp (by omega)).mp e))]
    simp only [bnd, if_true]
    exact Or.inl ⟨_, rfl, rfl⟩
theorem RelD.grow {sC sM : StT} {dn : Nat} {dp : Nat → Nat} {df : Nat → Int32} (h : RelD sC sM dn dp df) {p : Nat} (q : dn < 60) (c : p < dn) : RelD (uF (uA (uA sC 42 (nI dn) (nI p)) 43 (nI dn) (df p)) 27 (nI (dn + 1))) (uF (uA (uA sM 53 (nI dn) (nI p)) 54 (nI dn) (df p)) 36 (nI (dn + 1))) (dn + 1) (fun w => if w = dn then p else dp w) (fun w => if w = dn then df p else df w) := by
  obtain ⟨h1, h2, h3, h4, h5, h6, h7, h8⟩ := h
  refine ⟨by omega, by omega, rfl, rfl, fun w hw => ?_, ?_, ?_, fun w w1 w2 => ?_⟩
  · simp [uF_2, uA_21, upd_j, nI_cl (show dn < 2 ^ 31 by omega)]
    by_cases e : w = dn
    · simp [e]
    · simp [e, h5 w (by omega)]
  · simp [uF_2, uA_21, upd_j, nI_cl (show dn < 2 ^ 31 by omega), show (0 : Nat) ≠ dn by omega, h6]
  · simp [uF_2, uA_21, upd_j, nI_cl (show dn < 2 ^ 31 by omega), show (0 : Nat) ≠ dn by omega, h7]
  · simp [uF_2, uA_21, upd_j, nI_cl (show dn < 2 ^ 31 by omega)]
    by_cases e : w = dn
    · simp [e]; omega
    · simp [e]; exact h8 w w1 (by omega)
/-- isOver of the reference -/
theorem isOverM {n : Nat} {sC sM : StT} {dn : Nat} {dp : Nat → Nat} {df : Nat → Int32} (h : RelD sC sM dn dp df) {w : Nat} (hw : w < dn) : ∀ (k fu : Nat), k < dn → k < fu → f_X12_isOver_2 n fu sM (nI w) (nI k) = some (if Ab dp w k = true then 1 else 0, sM) := by
  obtain ⟨h1, h2, h3, h4, h5, h6, h7, h8⟩ := h
  intro k
  induction k using Nat.strongRecOn with
  | ind k ih =>
    intro fu hk hfu
    obtain ⟨fu, rfl⟩ : ∃ q, fu = q + 1 := ⟨fu - 1, by omega⟩
    rw [f_X12_isOver_2]
    by_cases c : k ≤ w
    · rw [if_pos ((nI_leI (by omega) (by omega)).mpr c), Ab_le c]
      by_cases e : k = w
      · rw [if_pos (by rw [e]), if_pos (by simp [e])]
      · rw [if_neg (fun q => e (nI_inj (by omega) (by omega) q)), if_neg (by simp [e])]
    · rw [if_neg (fun q => c ((nI_leI (by omega) (by omega)).mp q)), inB_nI (show k < 60 by omega) (by omega), if_pos rfl, nI_cl (by omega), (h8 k (by omega) hk).2.1]
      have := (h8 k (by omega) hk).2.2
      rw [ih _ this fu (by omega) (by omega), Ab_up (fun a a1 a2 => (h8 a a1 a2).2.2) hk (by omega)]
/-- above of the class -/
theorem aboveC_loop {n : Nat} {sC sM : StT} {dn : Nat} {dp : Nat → Nat} {df : Nat → Int32} (h : RelD sC sM dn dp df) {w : Nat} (hw : w < dn) : ∀ (d k fu : Nat) (m : Int64), k + d = dn → w < k → d < fu → (∀ j, j < 64 → b64 m j = (decide (j < k) && Ab dp w j)) → ∃ m' : Int64, f_X9_above_13 n fu sC m (nI k) = some (m', sC) ∧ ∀ j, j < 64 → b64 m' j = (decide (j < dn) && Ab dp w j) := by
  obtain ⟨h1, h2, h3, h4, h5, h6, h7, h8⟩ := h
  intro d
  induction d with
  | zero =>
    intro k fu m hk hwk hfu hm
    obtain ⟨fu, rfl⟩ : ∃ q, fu = q + 1 := ⟨fu - 1, by omega⟩
    rw [f_X9_above_13, h3, if_pos ((nI_leI (by omega) (by omega)).mpr (by omega))]
    exact ⟨m, rfl, by rw [show dn = k by omega]; exact hm⟩
  | succ d ih =>
    intro k fu m hk hwk hfu hm
    obtain ⟨fu, rfl⟩ : ∃ q, fu = q + 1 := ⟨fu - 1, by omega⟩
    have hp := h8 k (by omega) (by omega)
    rw [f_X9_above_13, h3, if_neg (fun e => absurd ((nI_leI (by omega) (by omega)).mp e) (by omega)), if_neg (show ¬ (60 : Int32) ≤ nI k from fun e => absurd ((nI_leI (a := 60) (by omega) (by omega)).mp e) (by omega)), inB_nI (show k < 60 by omega) (by omega), if_pos rfl, nI_cl (by omega), hp.1, tst64u m (show dp k < 64 by omega), nI_1]
    have hAk : Ab dp w k = Ab dp w (dp k) := Ab_up (dn := dn) (fun a a1 a2 => (h8 a a1 a2).2.2) (by omega) hwk
    have hbit : b64 m (dp k) = Ab dp w k := by
      rw [hm _ (by omega), hAk]; simp [hp.2.2]
    by_cases c : b64 m (dp k) = true
    · rw [if_pos ((lgc1 _).mpr c)]
      refine ih (k + 1) fu _ (by omega) (by omega) (by omega) (fun j hj => ?_)
      rw [b64_or, b64_shl (by omega) hj, hm j hj]
      by_cases e : j = k
      · subst e; rw [← hbit, c]; simp
      · have : (decide (j < k + 1)) = decide (j < k) := by simp; omega
        rw [this]; simp [e]
    · rw [if_neg (fun e => c ((lgc1 _).mp e))]
      refine ih (k + 1) fu _ (by omega) (by omega) (by omega) (fun j hj => ?_)
      rw [hm j hj]
      by_cases e : j = k
      · subst e
        have : Ab dp w j = false := by rw [← hbit]; simpa using c
        rw [this]; simp
      · have : (decide (j < k + 1)) = decide (j < k) := by simp; omega
        rw [this]
theorem aboveC {n : Nat} (hn : 100000 ≤ n) {sC sM : StT} {dn : Nat} {dp : Nat → Nat} {df : Nat → Int32} (h : RelD sC sM dn dp df) {w : Nat} (hw : w < dn) : ∃ m : Int64, f_X9_above n sC (nI w) = some (m, sC) ∧ ∀ j, j < 64 → b64 m j = (decide (j < dn) && Ab dp w j) := by
  have h2 := h.2.1
  unfold f_X9_above
  rw [if_neg (nI_nneg (by omega)), nI_1]
  refine aboveC_loop h hw (dn - (w + 1)) (w + 1) n _ (by omega) (by omega) (by omega) (fun j hj => ?_)
  rw [b64_shl (by omega) hj]
  by_cases c : j ≤ w
  · rw [Ab_le c]
    by_cases e : j = w
    · simp [e]
    · simp [e]
  · simp [show ¬ j < w + 1 by omega, show j ≠ w by omega]
