/-! ===== the reference's asks ===== -/
def sg (s : StT) (a st : Nat) : StT := uA s 51 (nI a) (nI (st + 1))
def pu (s : StT) (a : Nat) (t g : Int32) : StT := uF (uA (uA (uA s 49 (nI a) t) 50 (nI a) g) 51 (nI a) 0) 35 (nI (a + 1))
def RUN (n fo : Nat) (s : StT) (b : Int32) (res : Int32 × StT) : Prop := f_X12_isProof_17 n fo s b = some res
theorem ask_e {n : Nat} {s : StT} {a : Nat} (h : s.1 35 = nI a) (ha : a < 3300) (t g : Int32) : f_X12_askOf n s t g = some (-2, pu s a t g) := by
  unfold f_X12_askOf pu
  simp only [uA_1, h, inB_nI ha (by omega), if_true, nI_1]
theorem run_ask {n fo : Nat} {s s' : StT} {a : Nat} {b : Int32} {res : Int32 × StT} (h : s.1 35 = nI (a + 1)) (ha : a < 3300) (e : f_X12_answered n s (nI a) b = some (-2, s')) (hr : RUN n fo s' (-2) res) : RUN n (fo + 1) s b res := by
  unfold RUN at hr ⊢
  rw [f_X12_isProof_17, h, if_neg (show ¬ nI (a + 1) ≤ (0 : Int32) from fun e => absurd ((nI_leI (b := 0) (by omega) (by omega)).mp e) (by omega)), nI_m1, e, Option.bind_some]
  simp only [if_true]
  exact hr
theorem run_ret {n fo : Nat} {s s' : StT} {a : Nat} {b r : Int32} {res : Int32 × StT} (h : s.1 35 = nI (a + 1)) (ha : a < 3300) (e : f_X12_answered n s (nI a) b = some (r, s')) (h2 : r ≠ -2) (hr : RUN n fo (uF s' 35 (nI a)) r res) : RUN n (fo + 1) s b res := by
  unfold RUN at hr ⊢
  rw [f_X12_isProof_17, h, if_neg (show ¬ nI (a + 1) ≤ (0 : Int32) from fun e => absurd ((nI_leI (b := 0) (by omega) (by omega)).mp e) (by omega)), nI_m1, e, Option.bind_some]
  simp only []
  rw [if_neg h2]
  exact hr
/-- row a asks for u: G is the goal or -1, st the stage -/
def Row (s : StT) (a u : Nat) (G : Int32) (st k : Nat) : Prop := a < 3000 ∧ u < 1600 ∧ s.2.1 49 a = nI u ∧ s.2.1 50 a = G ∧ s.2.1 51 a = nI st ∧ s.2.1 40 u = nI k
theorem sg_A {s : StT} {a st : Nat} : ∀ j, j ≠ 51 → (sg s a st).2.1 j = s.2.1 j := by
  intro j hj; unfold sg; simp only [uA_21]; rw [if_neg hj]
theorem sg_51 {s : StT} {a st : Nat} (ha : a < 3000) : (sg s a st).2.1 51 a = nI (st + 1) := by
  unfold sg; simp only [uA_21, if_true, upd_j, nI_cl (show a < 2 ^ 31 by omega)]
theorem ans_H {n : Nat} {s : StT} {a u g st v : Nat} {b : Int32} (h : Row s a u (nI g) st 72) (hg : g < 4200) (hv : v < 80) (e42 : s.2.1 42 u = nI v) : f_X12_answered n s (nI a) b = some (if s.2.1 48 v = nI g then 1 else 0, sg s a st) := by
  obtain ⟨ha, hu, h49, h50, h51, h40⟩ := h
  unfold f_X12_answered
  simp only [inB_nI (show a < 3300 by omega) (by omega), inB_nI hu (by omega), nI_cl (show a < 2 ^ 31 by omega), nI_cl (show u < 2 ^ 31 by omega), nI_cl (show g < 2 ^ 31 by omega), nI_cl (show v < 2 ^ 31 by omega), h49, h50, h51, h40, if_true, bind_eta, nI_1, uA_21, if_neg (show ¬ (42 : Nat) = 51 by decide), if_neg (show ¬ (48 : Nat) = 51 by decide), e42, inB_nI hv (by omega)]
  rw [if_pos (nI_nn (by omega)), if_neg (by decide), if_pos (by decide)]
  by_cases c : s.2.1 48 v = nI g
  · rw [if_pos c, if_pos c]; rfl
  · rw [if_neg c, if_neg c]; rfl
theorem ans_T {n : Nat} {s : StT} {a u g st : Nat} {b : Int32} (h : Row s a u (nI g) st 84) (hg : g < 4200) : f_X12_answered n s (nI a) b = some (if nI g = 1 then 1 else 0, sg s a st) := by
  obtain ⟨ha, hu, h49, h50, h51, h40⟩ := h
  unfold f_X12_answered
  simp only [inB_nI (show a < 3300 by omega) (by omega), inB_nI hu (by omega), nI_cl (show a < 2 ^ 31 by omega), nI_cl (show u < 2 ^ 31 by omega), nI_cl (show g < 2 ^ 31 by omega), h49, h50, h51, h40, if_true, bind_eta, nI_1]
  rw [if_pos (nI_nn (by omega)), if_neg (by decide), if_neg (by decide), if_neg (by decide), if_neg (by decide), if_neg (by decide), if_neg (by decide), if_pos (by decide)]
  by_cases c : nI g = 1
  · rw [if_pos c, if_pos c]; rfl
  · rw [if_neg c, if_neg c]; rfl
theorem ans_L0 {n : Nat} {s : StT} {a u g m : Nat} {b : Int32} (h : Row s a u (nI g) 0 76) (hg : g < 4200) (hm : m < 80) (e41 : s.2.1 41 u = nI m) : f_X12_answered n s (nI a) b = if s.2.1 0 g = 5 then (if s.2.1 1 g = s.2.1 44 u then f_X12_askOf n (uA (sg s a 0) 48 (nI m) (s.2.1 44 u)) (s.2.1 42 u) (s.2.1 2 g) else some (0, sg s a 0)) else some (0, sg s a 0) := by
  obtain ⟨ha, hu, h49, h50, h51, h40⟩ := h
  unfold f_X12_answered sg
  simp only [inB_nI (show a < 3300 by omega) (by omega), inB_nI hu (by omega), nI_cl (show a < 2 ^ 31 by omega), nI_cl (show u < 2 ^ 31 by omega), nI_cl (show g < 2 ^ 31 by omega), h49, h50, h51, h40, if_true, bind_eta, nI_1, inB_nI hg (by omega), uA_21, if_neg (show ¬ (0 : Nat) = 51 by decide), if_neg (show ¬ (1 : Nat) = 51 by decide), if_neg (show ¬ (2 : Nat) = 51 by decide), if_neg (show ¬ (41 : Nat) = 51 by decide), if_neg (show ¬ (42 : Nat) = 51 by decide), if_neg (show ¬ (44 : Nat) = 51 by decide), if_neg (show ¬ (2 : Nat) = 48 by decide), if_neg (show ¬ (42 : Nat) = 48 by decide), e41, inB_nI hm (by omega)]
  rw [if_pos (nI_nn (by omega)), if_neg (by decide), if_neg (by decide), if_neg (by decide), if_neg (by decide), if_pos (by decide), if_neg (by decide)]
theorem ans_L1 {n : Nat} {s : StT} {a u g : Nat} {b : Int32} (h : Row s a u (nI g) 1 76) (hg : g < 4200) : f_X12_answered n s (nI a) b = some (b, sg s a 1) := by
  obtain ⟨ha, hu, h49, h50, h51, h40⟩ := h
  unfold f_X12_answered sg
  simp only [inB_nI (show a < 3300 by omega) (by omega), inB_nI hu (by omega), nI_cl (show a < 2 ^ 31 by omega), nI_cl (show u < 2 ^ 31 by omega), h49, h50, h51, h40, if_true, nI_1]
  rw [if_pos (nI_nn (by omega)), if_neg (by decide), if_neg (by decide), if_neg (by decide), if_neg (by decide), if_pos (by decide), if_pos (by decide)]
theorem ans_P0 {n : Nat} {s : StT} {a u g : Nat} {b : Int32} (h : Row s a u (nI g) 0 80) (hg : g < 4200) : f_X12_answered n s (nI a) b = if s.2.1 0 g = 3 then f_X12_askOf n (sg s a 0) (s.2.1 42 u) (s.2.1 1 g) else some (0, sg s a 0) := by
  obtain ⟨ha, hu, h49, h50, h51, h40⟩ := h
  unfold f_X12_answered sg
  simp only [inB_nI (show a < 3300 by omega) (by omega), inB_nI hu (by omega), nI_cl (show a < 2 ^ 31 by omega), nI_cl (show u < 2 ^ 31 by omega), nI_cl (show g < 2 ^ 31 by omega), h49, h50, h51, h40, if_true, bind_eta, nI_1, inB_nI hg (by omega), uA_21, if_neg (show ¬ (0 : Nat) = 51 by decide), if_neg (show ¬ (1 : Nat) = 51 by decide), if_neg (show ¬ (42 : Nat) = 51 by decide)]
  rw [if_pos (nI_nn (by omega)), if_neg (by decide), if_neg (by decide), if_neg (by decide), if_neg (by decide), if_neg (by decide), if_pos (by decide), if_pos (by decide)]
theorem ans_P1 {n : Nat} {s : StT} {a u g : Nat} {b : Int32} (h : Row s a u (nI g) 1 80) (hg : g < 4200) : f_X12_answered n s (nI a) b = if b = 1 then f_X12_askOf n (sg s a 1) (s.2.1 43 u) (s.2.1 2 g) else some (b, sg s a 1) := by
  obtain ⟨ha, hu, h49, h50, h51, h40⟩ := h
  unfold f_X12_answered sg
  simp only [inB_nI (show a < 3300 by omega) (by omega), inB_nI hu (by omega), nI_cl (show a < 2 ^ 31 by omega), nI_cl (show u < 2 ^ 31 by omega), nI_cl (show g < 2 ^ 31 by omega), h49, h50, h51, h40, if_true, bind_eta, nI_1, inB_nI hg (by omega), uA_21, if_neg (show ¬ (2 : Nat) = 51 by decide), if_neg (show ¬ (43 : Nat) = 51 by decide)]
  rw [if_pos (nI_nn (by omega)), if_neg (by decide), if_neg (by decide), if_neg (by decide), if_neg (by decide), if_neg (by decide), if_pos (by decide), if_neg (by decide), if_pos (by decide)]
theorem ans_P2 {n : Nat} {s : StT} {a u g : Nat} {b : Int32} (h : Row s a u (nI g) 2 80) (hg : g < 4200) : f_X12_answered n s (nI a) b = some (b, sg s a 2) := by
  obtain ⟨ha, hu, h49, h50, h51, h40⟩ := h
  unfold f_X12_answered sg
  simp only [inB_nI (show a < 3300 by omega) (by omega), inB_nI hu (by omega), nI_cl (show a < 2 ^ 31 by omega), nI_cl (show u < 2 ^ 31 by omega), nI_cl (show g < 2 ^ 31 by omega), h49, h50, h51, h40, if_true, bind_eta, nI_1]
  rw [if_pos (nI_nn (by omega)), if_neg (by decide), if_neg (by decide), if_neg (by decide), if_neg (by decide), if_neg (by decide), if_pos (by decide), if_neg (by decide), if_neg (by decide)]
theorem ans_I0 {n : Nat} {s : StT} {a u g : Nat} {b : Int32} (h : Row s a u (nI g) 0 73) (hg : g < 4200) : f_X12_answered n s (nI a) b = if s.2.1 0 g = 4 then f_X12_askOf n (sg s a 0) (s.2.1 42 u) (s.2.1 1 g) else some (0, sg s a 0) := by
  obtain ⟨ha, hu, h49, h50, h51, h40⟩ := h
  unfold f_X12_answered sg
  simp only [inB_nI (show a < 3300 by omega) (by omega), inB_nI hu (by omega), nI_cl (show a < 2 ^ 31 by omega), nI_cl (show u < 2 ^ 31 by omega), nI_cl (show g < 2 ^ 31 by omega), h49, h50, h51, h40, if_true, bind_eta, nI_1, inB_nI hg (by omega), uA_21, if_neg (show ¬ (0 : Nat) = 51 by decide), if_neg (show ¬ (1 : Nat) = 51 by decide), if_neg (show ¬ (42 : Nat) = 51 by decide)]
  rw [if_pos (nI_nn (by omega)), if_neg (by decide), if_neg (by decide), if_pos (by decide), if_neg (by decide)]
  rfl
theorem ans_J0 {n : Nat} {s : StT} {a u g : Nat} {b : Int32} (h : Row s a u (nI g) 0 74) (hg : g < 4200) : f_X12_answered n s (nI a) b = if s.2.1 0 g = 4 then f_X12_askOf n (sg s a 0) (s.2.1 42 u) (s.2.1 2 g) else some (0, sg s a 0) := by
  obtain ⟨ha, hu, h49, h50, h51, h40⟩ := h
  unfold f_X12_answered sg
  simp only [inB_nI (show a < 3300 by omega) (by omega), inB_nI hu (by omega), nI_cl (show a < 2 ^ 31 by omega), nI_cl (show u < 2 ^ 31 by omega), nI_cl (show g < 2 ^ 31 by omega), h49, h50, h51, h40, if_true, bind_eta, nI_1, inB_nI hg (by omega), uA_21, if_neg (show ¬ (0 : Nat) = 51 by decide), if_neg (show ¬ (2 : Nat) = 51 by decide), if_neg (show ¬ (42 : Nat) = 51 by decide)]
  rw [if_pos (nI_nn (by omega)), if_neg (by decide), if_neg (by decide), if_neg (by decide), if_pos (by decide), if_neg (by decide)]
  rfl
theorem ans_I1 {n : Nat} {s : StT} {a u g k : Nat} {b : Int32} (h : Row s a u (nI g) 1 k) (hk : k = 73 ∨ k = 74 ∨ k = 88) (hg : g < 4200) : f_X12_answered n s (nI a) b = some (b, sg s a 1) := by
  obtain ⟨ha, hu, h49, h50, h51, h40⟩ := h
  unfold f_X12_answered sg
  simp only [inB_nI (show a < 3300 by omega) (by omega), inB_nI hu (by omega), nI_cl (show a < 2 ^ 31 by omega), nI_cl (show u < 2 ^ 31 by omega), nI_cl (show g < 2 ^ 31 by omega), h49, h50, h51, h40, if_true, bind_eta, nI_1]
  rcases hk with rfl | rfl | rfl
  · rw [if_pos (nI_nn (by omega)), if_neg (by decide), if_neg (by decide), if_pos (by decide), if_pos (by decide)]
  · rw [if_pos (nI_nn (by omega)), if_neg (by decide), if_neg (by decide), if_neg (by decide), if_pos (by decide), if_pos (by decide)]
  · rw [if_pos (nI_nn (by omega)), if_neg (by decide), if_neg (by decide), if_neg (by decide), if_neg (by decide), if_neg (by decide), if_neg (by decide), if_neg (by decide), if_pos (by decide), if_pos (by decide)]
theorem ans_X0 {n : Nat} {s : StT} {a u g : Nat} {b : Int32} (h : Row s a u (nI g) 0 88) (hg : g < 4200) : f_X12_answered n s (nI a) b = f_X12_askOf n (sg s a 0) (s.2.1 42 u) 0 := by
  obtain ⟨ha, hu, h49, h50, h51, h40⟩ := h
  unfold f_X12_answered sg
  simp only [inB_nI (show a < 3300 by omega) (by omega), inB_nI hu (by omega), nI_cl (show a < 2 ^ 31 by omega), nI_cl (show u < 2 ^ 31 by omega), nI_cl (show g < 2 ^ 31 by omega), h49, h50, h51, h40, if_true, bind_eta, nI_1, uA_21, if_neg (show ¬ (42 : Nat) = 51 by decide)]
  rw [if_pos (nI_nn (by omega)), if_neg (by decide), if_neg (by decide), if_neg (by decide), if_neg (by decide), if_neg (by decide), if_neg (by decide), if_neg (by decide), if_pos (by decide), if_neg (by decide)]
theorem ans_D0 {n : Nat} {s : StT} {a u g k : Nat} {b : Int32} (h : Row s a u (nI g) 0 k) (hk : k = 65 ∨ k = 70 ∨ k = 83) (hg : g < 4200) : f_X12_answered n s (nI a) b = f_X12_askOf n (sg s a 0) (nI u) (-1) := by
  obtain ⟨ha, hu, h49, h50, h51, h40⟩ := h
  unfold f_X12_answered sg
  simp only [inB_nI (show a < 3300 by omega) (by omega), inB_nI hu (by omega), nI_cl (show a < 2 ^ 31 by omega), nI_cl (show u < 2 ^ 31 by omega), nI_cl (show g < 2 ^ 31 by omega), h49, h50, h51, h40, if_true, bind_eta, nI_1]
  rcases hk with rfl | rfl | rfl <;> rw [if_pos (nI_nn (by omega)), if_neg (by decide), if_neg (by decide), if_neg (by decide), if_neg (by decide), if_neg (by decide), if_neg (by decide), if_neg (by decide), if_neg (by decide), if_neg (by decide)]
theorem ans_D1 {n : Nat} {s : StT} {a u g k : Nat} {b : Int32} (h : Row s a u (nI g) 1 k) (hk : k = 65 ∨ k = 70 ∨ k = 83) (hg : g < 4200) : f_X12_answered n s (nI a) b = some (if b = nI g then 1 else 0, sg s a 1) := by
  obtain ⟨ha, hu, h49, h50, h51, h40⟩ := h
  unfold f_X12_answered sg
  simp only [inB_nI (show a < 3300 by omega) (by omega), inB_nI hu (by omega), nI_cl (show a < 2 ^ 31 by omega), nI_cl (show u < 2 ^ 31 by omega), nI_cl (show g < 2 ^ 31 by omega), h49, h50, h51, h40, if_true, bind_eta, nI_1]
  have e : (if b = nI g then some ((1 : Int32), uA s 51 (nI a) (nI (1 + 1))) else some (0, uA s 51 (nI a) (nI (1 + 1)))) = some (if b = nI g then 1 else 0, uA s 51 (nI a) (nI (1 + 1))) := by split <;> rfl
  rcases hk with rfl | rfl | rfl <;> rw [if_pos (nI_nn (by omega)), if_neg (by decide), if_neg (by decide), if_neg (by decide), if_neg (by decide), if_neg (by decide), if_neg (by decide), if_neg (by decide), if_neg (by decide), if_pos (by decide), e]
theorem ans_C {n : Nat} {s : StT} {a u g st : Nat} {b : Int32} (h : Row s a u (nI g) st 67) (hg : g < 4200) : f_X12_answered n s (nI a) b = f_X12_cases n (sg s a st) (nI a) (nI u) (nI g) (nI st) b := by
  obtain ⟨ha, hu, h49, h50, h51, h40⟩ := h
  unfold f_X12_answered sg
  simp only [inB_nI (show a < 3300 by omega) (by omega), inB_nI hu (by omega), nI_cl (show a < 2 ^ 31 by omega), nI_cl (show u < 2 ^ 31 by omega), h49, h50, h51, h40, if_true, bind_eta, nI_1]
  rw [if_pos (nI_nn (by omega)), if_pos (by decide)]
theorem ans_has {n : Nat} {s : StT} {a u st k : Nat} {b : Int32} (h : Row s a u (-1) st k) : f_X12_answered n s (nI a) b = f_X12_has n (sg s a st) (nI a) (nI u) (nI k) (nI st) b := by
  obtain ⟨ha, hu, h49, h50, h51, h40⟩ := h
  unfold f_X12_answered sg
  simp only [inB_nI (show a < 3300 by omega) (by omega), inB_nI hu (by omega), nI_cl (show a < 2 ^ 31 by omega), nI_cl (show u < 2 ^ 31 by omega), h49, h50, h51, h40, if_true, bind_eta, nI_1]
  rw [if_neg (by decide)]
