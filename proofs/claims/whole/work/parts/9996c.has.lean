/-! ===== what a term has, step by step in the reference ===== -/
theorem has_0 {n : Nat} {S : StT} {x1 x2 x3 b : Int32} : f_X12_has n S x1 x2 x3 (nI 0) b = f_X12_has_12 n S x1 x2 x3 0 b := by
  unfold f_X12_has; rw [if_pos (by decide)]; rfl
theorem has_pos {n : Nat} {S : StT} {x1 x2 x3 : Int32} {st f : Nat} (hf : f < 2 ^ 31) : f_X12_has n S x1 x2 x3 (nI st) (nI f) = f_X12_has_12 n S x1 x2 x3 (nI st) (nI f) := by
  unfold f_X12_has; rw [if_pos (nI_nn hf), ite_self]
theorem has_neg {n : Nat} {S : StT} {x1 x2 x3 : Int32} {st : Nat} (h0 : 0 < st) (hs : st < 10) : f_X12_has n S x1 x2 x3 (nI st) (-1) = some (-1, S) := by
  unfold f_X12_has
  rw [if_neg (show ¬ nI st ≤ (0 : Int32) from fun e => absurd ((nI_leI (b := 0) (by omega) (by omega)).mp e) (by omega)), if_neg (by decide)]
theorem has_H {n : Nat} {S : StT} {x1 b : Int32} {u v : Nat} (hu : u < 1600) (hv : v < 80) (e42 : S.2.1 42 u = nI v) : f_X12_has n S x1 (nI u) (nI 72) (nI 0) b = some (S.2.1 48 v, S) := by
  rw [has_0, f_X12_has_12, if_neg (by decide), if_neg (by decide), if_pos (by decide), inB_nI hu (by omega), if_pos rfl, nI_cl (by omega), e42, inB_nI hv (by omega), if_pos rfl, nI_cl (by omega)]
theorem has_T {n : Nat} {S : StT} {x1 x2 b : Int32} : f_X12_has n S x1 x2 (nI 84) (nI 0) b = some (1, S) := by
  rw [has_0, f_X12_has_12, if_neg (by decide), if_neg (by decide), if_neg (by decide), if_neg (by decide), if_neg (by decide), if_neg (by decide), if_pos (by decide)]
theorem has_else {n : Nat} {S : StT} {x1 x2 b : Int32} {k : Nat} (hk : k = 73 ∨ k = 74 ∨ k = 67 ∨ k = 88) : f_X12_has n S x1 x2 (nI k) (nI 0) b = some (-1, S) := by
  rw [has_0, f_X12_has_12]
  rcases hk with rfl | rfl | rfl | rfl <;> rw [if_neg (by decide), if_neg (by decide), if_neg (by decide), if_neg (by decide), if_neg (by decide), if_neg (by decide), if_neg (by decide)]
theorem has_L0 {n : Nat} {S : StT} {x1 b : Int32} {u m : Nat} (hu : u < 1600) (hm : m < 80) (e41 : S.2.1 41 u = nI m) : f_X12_has n S x1 (nI u) (nI 76) (nI 0) b = f_X12_askOf n (uA S 48 (nI m) (S.2.1 44 u)) (S.2.1 42 u) (-1) := by
  rw [has_0, f_X12_has_12, if_neg (by decide), if_neg (by decide), if_neg (by decide), if_pos (by decide), if_pos rfl, inB_nI hu (by omega), if_pos rfl, if_pos rfl, nI_cl (by omega), e41, inB_nI hm (by omega), if_pos rfl, if_pos rfl, bind_eta]
  simp only [uA_21, if_neg (show ¬ (42 : Nat) = 48 by decide)]
theorem has_L1 {n : Nat} {S : StT} {x1 : Int32} {u f : Nat} (hu : u < 1600) (hf : f < 2 ^ 31) : f_X12_has n S x1 (nI u) (nI 76) (nI 1) (nI f) = f_X12_askedFormula n S 5 (S.2.1 44 u) (nI f) := by
  rw [has_pos hf, f_X12_has_12, if_neg (by decide), if_neg (by decide), if_neg (by decide), if_pos (by decide), if_neg (by decide), inB_nI hu (by omega), if_pos rfl, nI_cl (by omega), bind_eta]
theorem has_P0 {n : Nat} {S : StT} {x1 b : Int32} {u : Nat} (hu : u < 1600) : f_X12_has n S x1 (nI u) (nI 80) (nI 0) b = f_X12_askOf n S (S.2.1 42 u) (-1) := by
  rw [has_0, f_X12_has_12, if_neg (by decide), if_neg (by decide), if_neg (by decide), if_neg (by decide), if_pos (by decide), if_pos rfl, inB_nI hu (by omega), if_pos rfl, nI_cl (by omega), bind_eta]
theorem has_P1 {n : Nat} {S : StT} {u a f : Nat} (hu : u < 1600) (ha : a < 3000) (hf : f < 2 ^ 31) : f_X12_has n S (nI a) (nI u) (nI 80) (nI 1) (nI f) = f_X12_askOf n (uA S 52 (nI a) (nI f)) (S.2.1 43 u) (-1) := by
  rw [has_pos hf, f_X12_has_12, if_neg (by decide), if_neg (by decide), if_neg (by decide), if_neg (by decide), if_pos (by decide), if_neg (by decide), if_pos (by decide), inB_nI (show a < 3300 by omega) (by omega), if_pos rfl, inB_nI hu (by omega), if_pos rfl, nI_cl (by omega), bind_eta]
  simp only [uA_21, if_neg (show ¬ (43 : Nat) = 52 by decide)]
theorem has_P2 {n : Nat} {S : StT} {u a f : Nat} (ha : a < 3000) (hf : f < 2 ^ 31) : f_X12_has n S (nI a) (nI u) (nI 80) (nI 2) (nI f) = f_X12_askedFormula n S 3 (S.2.1 52 a) (nI f) := by
  rw [has_pos hf, f_X12_has_12, if_neg (by decide), if_neg (by decide), if_neg (by decide), if_neg (by decide), if_pos (by decide), if_neg (by decide), if_neg (by decide), inB_nI (show a < 3300 by omega) (by omega), if_pos rfl, nI_cl (by omega), bind_eta]
theorem has_A0 {n : Nat} {S : StT} {x1 b : Int32} {u : Nat} (hu : u < 1600) : f_X12_has n S x1 (nI u) (nI 65) (nI 0) b = f_X12_askOf n S (S.2.1 42 u) (-1) := by
  rw [has_0, f_X12_has_12, if_pos (by decide), if_pos rfl, inB_nI hu (by omega), if_pos rfl, nI_cl (by omega), bind_eta]
theorem has_A1 {n : Nat} {S : StT} {u a f : Nat} (hu : u < 1600) (ha : a < 3000) (hf : f < 4200) : f_X12_has n S (nI a) (nI u) (nI 65) (nI 1) (nI f) = if S.2.1 0 f = 5 then f_X12_askOf n (uA S 52 (nI a) (nI f)) (S.2.1 43 u) (S.2.1 1 f) else some (-1, uA S 52 (nI a) (nI f)) := by
  rw [has_pos (by omega), f_X12_has_12, if_pos (by decide), if_neg (by decide), if_pos (by decide), inB_nI (show a < 3300 by omega) (by omega), if_pos rfl, inB_nI hf (by omega), if_pos rfl, nI_cl (by omega)]
  simp only [uA_21, if_neg (show ¬ (0 : Nat) = 52 by decide), if_neg (show ¬ (1 : Nat) = 52 by decide), if_neg (show ¬ (43 : Nat) = 52 by decide), inB_nI hu (by omega), if_true, nI_cl (show u < 2 ^ 31 by omega), bind_eta]
theorem has_A2 {n : Nat} {S : StT} {x2 : Int32} {a f : Nat} {r : Bool} (ha : a < 3000) (hf : f < 4200) (e : S.2.1 52 a = nI f) : f_X12_has n S (nI a) x2 (nI 65) (nI 2) (mI r) = if r = true then some (S.2.1 2 f, S) else some (-1, S) := by
  unfold f_X12_has
  rw [if_pos (show 0 ≤ mI r by cases r <;> decide), ite_self, f_X12_has_12, if_pos (by decide), if_neg (by decide), if_neg (by decide)]
  cases r with
  | true => rw [if_pos (by decide), inB_nI (show a < 3300 by omega) (by omega), if_pos rfl, nI_cl (by omega), e, inB_nI hf (by omega), if_pos rfl, nI_cl (by omega), if_pos rfl]
  | false => rw [if_neg (by decide), if_neg (by decide)]
theorem has_F0 {n : Nat} {S : StT} {x1 b : Int32} {u k : Nat} (hk : k = 70 ∨ k = 83) (hu : u < 1600) : f_X12_has n S x1 (nI u) (nI k) (nI 0) b = f_X12_askOf n S (S.2.1 42 u) (-1) := by
  rw [has_0, f_X12_has_12]
  rcases hk with rfl | rfl
  · rw [if_neg (by decide), if_pos (by decide), if_pos rfl, inB_nI hu (by omega), if_pos rfl, nI_cl (by omega), bind_eta]
  · rw [if_neg (by decide), if_neg (by decide), if_neg (by decide), if_neg (by decide), if_neg (by decide), if_pos (by decide), if_pos rfl, inB_nI hu (by omega), if_pos rfl, nI_cl (by omega), bind_eta]
theorem has_F1 {n : Nat} {S : StT} {x1 x2 : Int32} {f : Nat} (hf : f < 4200) : f_X12_has n S x1 x2 (nI 70) (nI 1) (nI f) = if S.2.1 0 f = 3 then some (S.2.1 1 f, S) else some (-1, S) := by
  rw [has_pos (by omega), f_X12_has_12, if_neg (by decide), if_pos (by decide), if_neg (by decide), inB_nI hf (by omega), if_pos rfl, nI_cl (by omega)]
  rfl
theorem has_S1 {n : Nat} {S : StT} {x1 x2 : Int32} {f : Nat} (hf : f < 4200) : f_X12_has n S x1 x2 (nI 83) (nI 1) (nI f) = if S.2.1 0 f = 3 then some (S.2.1 2 f, S) else some (-1, S) := by
  rw [has_pos (by omega), f_X12_has_12, if_neg (by decide), if_neg (by decide), if_neg (by decide), if_neg (by decide), if_neg (by decide), if_pos (by decide), if_neg (by decide), inB_nI hf (by omega), if_pos rfl, nI_cl (by omega)]
  rfl
theorem cas_0 {n : Nat} {S : StT} {x1 x3 b : Int32} {u : Nat} (hu : u < 1600) : f_X12_cases n S x1 (nI u) x3 (nI 0) b = f_X12_askOf n S (S.2.1 42 u) (-1) := by
  rw [f_X12_cases, if_pos (by decide), inB_nI hu (by omega), if_pos rfl, nI_cl (by omega), bind_eta]
theorem cas_1n {n : Nat} {S : StT} {x1 x2 x3 : Int32} : f_X12_cases n S x1 x2 x3 (nI 1) (-1) = some (0, S) := by
  rw [f_X12_cases, if_neg (by decide), if_pos (by decide), if_pos (by decide)]
theorem cas_1 {n : Nat} {S : StT} {x3 : Int32} {u a f m : Nat} (hu : u < 1600) (ha : a < 3000) (hf : f < 4200) (hm : m < 80) (e41 : S.2.1 41 u = nI m) : f_X12_cases n S (nI a) (nI u) x3 (nI 1) (nI f) = if S.2.1 0 f = 4 then f_X12_askOf n (uA (uA S 52 (nI a) (nI f)) 48 (nI m) (S.2.1 1 f)) (S.2.1 43 u) x3 else some (0, S) := by
  rw [f_X12_cases, if_neg (by decide), if_pos (by decide), if_neg (nI_nneg (by omega)), inB_nI hf (by omega), if_pos rfl, nI_cl (by omega)]
  simp only [inB_nI (show a < 3300 by omega) (by omega), inB_nI hu (by omega), if_true, uA_21, if_neg (show ¬ (41 : Nat) = 52 by decide), if_neg (show ¬ (1 : Nat) = 52 by decide), if_neg (show ¬ (43 : Nat) = 52 by decide), if_neg (show ¬ (43 : Nat) = 48 by decide), nI_cl (show u < 2 ^ 31 by omega), e41, inB_nI hm (by omega), bind_eta]
theorem cas_2 {n : Nat} {S : StT} {x3 : Int32} {u a f m : Nat} (hu : u < 1600) (ha : a < 3000) (hf : f < 4200) (hm : m < 80) (e41 : S.2.1 41 u = nI m) (e52 : S.2.1 52 a = nI f) : f_X12_cases n S (nI a) (nI u) x3 (nI 2) 1 = f_X12_askOf n (uA S 48 (nI m) (S.2.1 2 f)) (S.2.1 44 u) x3 := by
  rw [f_X12_cases, if_neg (by decide), if_neg (by decide), if_pos (by decide), if_pos rfl]
  simp only [inB_nI (show a < 3300 by omega) (by omega), inB_nI hu (by omega), inB_nI hf (by omega), if_true, uA_21, if_neg (show ¬ (44 : Nat) = 48 by decide), nI_cl (show u < 2 ^ 31 by omega), nI_cl (show a < 2 ^ 31 by omega), nI_cl (show f < 2 ^ 31 by omega), e41, e52, inB_nI hm (by omega), bind_eta]
theorem cas_2n {n : Nat} {S : StT} {x1 x2 x3 : Int32} : f_X12_cases n S x1 x2 x3 (nI 2) 0 = some (0, S) := by
  rw [f_X12_cases, if_neg (by decide), if_neg (by decide), if_pos (by decide), if_neg (by decide)]
theorem cas_3 {n : Nat} {S : StT} {x1 x2 x3 b : Int32} : f_X12_cases n S x1 x2 x3 (nI 3) b = some (b, S) := by
  rw [f_X12_cases, if_neg (by decide), if_neg (by decide), if_neg (by decide)]
