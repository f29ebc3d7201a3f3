/-! ===== how the reference goes through the parts of a term ===== -/
def DnT (n fo : Nat) (s : StT) (d : Nat) (m : Nat) (res : Int32 × StT) : Prop := f_X12_readTerm_4 n fo s (nI d) (nI m) = some res
def UpT (n fo : Nat) (s : StT) (d u : Nat) (res : Int32 × StT) : Prop := ∀ (j : Nat) (x : Int32), d < j → f_X12_readTerm_75 n (f_X12_readTerm_4 n fo) j s (nI d) x (nI u) 1 = some res
theorem upT_end {n fo : Nat} {s : StT} {u : Nat} (h0 : s.1 10 = 0) : UpT n fo s 0 u (nI u, s) := by
  intro j x hj
  obtain ⟨j, rfl⟩ : ∃ q, j = q + 1 := ⟨j - 1, by omega⟩
  rw [f_X12_readTerm_75, if_neg (by decide), if_pos (by decide), f_X12_readTerm_268, if_neg (by decide), if_pos h0]
theorem upT_fault {n fo : Nat} {s : StT} {d u : Nat} (h0 : ¬ s.1 10 = 0) : UpT n fo s d u (-1, s) := by
  intro j x hj
  obtain ⟨j, rfl⟩ : ∃ q, j = q + 1 := ⟨j - 1, by omega⟩
  have e : f_X12_readTerm_268 n (f_X12_readTerm_4 n fo) s (nI d) x (nI u) 1 = some (-1, s) := by
    rw [f_X12_readTerm_268, if_neg (by decide), if_neg h0]
  rw [f_X12_readTerm_75, if_neg (by decide), if_neg h0, e, ite_self]
/-- part st of the open term is t -/
def sT (s : StT) (o u st t : Nat) : StT := uA (uA s (42 + st) (nI u) (nI t)) 46 (nI o) (nI (st + 1))
theorem up75 {n : Nat} {k4 : StT → Int32 → Int32 → Option (Int32 × StT)} {s : StT} {o u st t k : Nat} (h0 : s.1 10 = 0) (ho : o < 60) (hu : u < 1600) (hst : st < 3) (e45 : s.2.1 45 o = nI u) (e46 : s.2.1 46 o = nI st) (e40 : s.2.1 40 u = nI k) (j : Nat) (x : Int32) : f_X12_readTerm_75 n k4 (j + 1) s (nI (o + 1)) x (nI t) 1 = (f_X12_partsOf n (sT s o u st t) (nI k)).bind fun q => (if nI (st + 1) = q.1 then f_X12_readTerm_200 n k4 (f_X12_readTerm_75 n k4 j) q.2 (nI (o + 1)) x (nI t) (nI u) (nI k) 1 else f_X12_readTerm_200 n k4 (f_X12_readTerm_75 n k4 j) q.2 (nI (o + 1)) x (nI t) (nI u) (nI k) 0) := by
  rw [f_X12_readTerm_75, if_neg (by decide), if_neg (show ¬ nI (o + 1) ≤ 0 from fun e => absurd ((nI_leI (b := 0) (by omega) (by omega)).mp e) (by omega)), if_pos h0, nI_m1, inB_nI ho (by omega), if_pos rfl, nI_cl (by omega), e45, inB_nI hu (by omega), if_pos rfl, if_pos rfl, e46, nI_cl (by omega), e40]
  have f166 : ∀ s1 : StT, s1.2.1 46 o = nI st → f_X12_readTerm_166 n k4 (f_X12_readTerm_75 n k4 j) s1 (nI (o + 1)) x (nI t) (nI u) (nI k) = (f_X12_partsOf n (uA s1 46 (nI o) (nI (st + 1))) (nI k)).bind fun q => (if nI (st + 1) = q.1 then f_X12_readTerm_200 n k4 (f_X12_readTerm_75 n k4 j) q.2 (nI (o + 1)) x (nI t) (nI u) (nI k) 1 else f_X12_readTerm_200 n k4 (f_X12_readTerm_75 n k4 j) q.2 (nI (o + 1)) x (nI t) (nI u) (nI k) 0) := by
    intro s1 e1
    unfold f_X12_readTerm_166
    simp only [nI_m1, inB_nI ho (by omega), if_true, nI_cl (show o < 2 ^ 31 by omega), e1, nI_1, uA_21, upd_j]
  rcases (show st = 0 ∨ st = 1 ∨ st = 2 by omega) with rfl | rfl | rfl
  · rw [if_pos (by decide), if_pos rfl, f166 _ (by simp only [uA_21, if_neg (show ¬ (46 : Nat) = 42 by decide)]; exact e46)]
    rfl
  · rw [if_neg (by decide), if_pos rfl, if_pos (by decide), if_pos rfl, f166 _ (by simp only [uA_21, if_neg (show ¬ (46 : Nat) = 43 by decide)]; exact e46)]
    rfl
  · rw [if_neg (by decide), if_pos rfl, if_neg (by decide), if_pos rfl, f166 _ (by simp only [uA_21, if_neg (show ¬ (46 : Nat) = 44 by decide)]; exact e46)]
    rfl
theorem partsM {n : Nat} {s : StT} {k : Nat} (hk : k ∈ LTR) : f_X12_partsOf n s (nI k) = some (nI (pk k), s) := by
  have : ∀ k, k ∈ LTR → ∀ st : StT, f_X12_partsOf n st (nI k) = some (nI (pk k), st) := by
    intro k hk
    simp only [LTR, List.mem_cons, List.not_mem_nil, or_false] at hk
    rcases hk with rfl | rfl | rfl | rfl | rfl | rfl | rfl | rfl | rfl <;> (intro st; rfl)
  exact this k hk s
theorem pk_bd {k : Nat} : 1 ≤ pk k ∧ pk k ≤ 3 := by
  unfold pk; repeat' split
  all_goals omega
theorem up_more {n fo : Nat} {s s3 : StT} {o u st t k : Nat} {w : Int32} {res : Int32 × StT} (hk : k ∈ LTR) (h0 : s.1 10 = 0) (ho : o < 60) (hu : u < 1600) (hst : st + 1 < pk k) (e45 : s.2.1 45 o = nI u) (e46 : s.2.1 46 o = nI st) (e40 : s.2.1 40 u = nI k) (ew : f_X12_want n (sT s o u st t) 44 = some (w, s3)) (h : f_X12_readTerm_4 n fo s3 (nI (o + 1)) (s3.2.1 47 o + nI (csb k)) = some res) : UpT n fo s (o + 1) t res := by
  intro j x hj
  have hp := pk_bd (k := k)
  obtain ⟨j, rfl⟩ : ∃ q, j = q + 1 := ⟨j - 1, by omega⟩
  obtain ⟨j, rfl⟩ : ∃ q, j = q + 1 := ⟨j - 1, by omega⟩
  rw [up75 h0 ho hu (by omega) e45 e46 e40, partsM hk, Option.bind_some]
  simp only []
  rw [if_neg (fun e => absurd (nI_inj (by omega) (by omega) e) (by omega)), f_X12_readTerm_200, if_pos (by decide), ew, Option.bind_some, nI_m1, inB_nI ho (by omega), if_pos rfl, nI_cl (by omega)]
  have f0 : ∀ y : Int32, f_X12_readTerm_75 n (f_X12_readTerm_4 n fo) (j + 1) s3 (nI (o + 1)) y (nI t) 0 = f_X12_readTerm_4 n fo s3 (nI (o + 1)) y := by
    intro y
    rw [f_X12_readTerm_75, if_pos (by decide), f_X12_readTerm_268, if_pos (by decide)]
  simp only [f0]
  by_cases c : k = 67
  · rw [if_pos (by rw [c]; rfl)]
    rw [c] at h
    exact h
  · have hk2 : k < 100 := by
      simp only [LTR, List.mem_cons, List.not_mem_nil, or_false] at hk
      omega
    rw [if_neg (show ¬ nI k = (67 : Int32) from fun e => c (nI_inj (b := 67) (by omega) (by omega) e))]
    unfold csb at h
    rw [if_neg c] at h
    exact h
theorem up_last {n fo : Nat} {s s3 : StT} {o u st t k : Nat} {w : Int32} {res : Int32 × StT} (hk : k ∈ LTR) (h0 : s.1 10 = 0) (ho : o < 60) (hu : u < 1600) (hst : st + 1 = pk k) (e45 : s.2.1 45 o = nI u) (e46 : s.2.1 46 o = nI st) (e40 : s.2.1 40 u = nI k) (ew : f_X12_want n (sT s o u st t) 41 = some (w, s3)) (h : UpT n fo (uF s3 13 (s3.1 13 - 1)) o u res) : UpT n fo s (o + 1) t res := by
  intro j x hj
  have hp := pk_bd (k := k)
  obtain ⟨j, rfl⟩ : ∃ q, j = q + 1 := ⟨j - 1, by omega⟩
  rw [up75 h0 ho hu (by omega) e45 e46 e40, partsM hk, Option.bind_some]
  simp only []
  rw [if_pos (by rw [hst]), f_X12_readTerm_200, if_neg (by decide), ew, Option.bind_some, nI_p1]
  exact h j x (by omega)
theorem dn_leaf {n fo : Nat} {s s' : StT} {d u m : Nat} {res : Int32 × StT} (hn : d < n) (h0 : s.1 10 = 0) (h0' : s'.1 10 = 0) (hu : u < 2 ^ 31) (e : f_X12_beginTerm n s (nI d) (nI m) = some (nI u, s')) (h : UpT n fo s' d u res) : DnT n (fo + 1) s d m res := by
  unfold DnT
  rw [f_X12_readTerm_4, if_pos h0, e, Option.bind_some]
  simp only []
  rw [if_pos h0', if_pos (nI_nn hu)]
  exact h n _ hn
theorem dn_fault {n fo : Nat} {s s' : StT} {d m : Nat} {x : Int32} (h0 : s.1 10 = 0) (h0' : ¬ s'.1 10 = 0) (e : f_X12_beginTerm n s (nI d) (nI m) = some (x, s')) : DnT n (fo + 1) s d m (-1, s') := by
  unfold DnT
  rw [f_X12_readTerm_4, if_pos h0, e, Option.bind_some]
  simp only []
  rw [if_neg h0']
theorem dn_open {n fo : Nat} {s s' : StT} {d u m k : Nat} {res : Int32 × StT} (hk : k ∈ LTR) (h0 : s.1 10 = 0) (h0' : s'.1 10 = 0) (hd : d < 60) (hu : u < 1600) (e : f_X12_beginTerm n s (nI d) (nI m) = some (-1, s')) (e45 : s'.2.1 45 d = nI u) (e40 : s'.2.1 40 u = nI k) (e47 : s'.2.1 47 d = nI m) (h : DnT n fo s' (d + 1) (m + lam k) res) : DnT n (fo + 1) s d m res := by
  unfold DnT at h ⊢
  rw [f_X12_readTerm_4, if_pos h0, e, Option.bind_some]
  simp only []
  rw [if_pos h0', if_neg (by decide), inB_nI hd (by omega), if_pos rfl, nI_cl (by omega), e45, inB_nI hu (by omega), if_pos rfl, if_pos rfl, nI_cl (by omega), e40, e47]
  by_cases c : k = 76
  · rw [if_pos (by rw [c]; rfl), nI_1, nI_1]
    rw [c] at h
    exact h
  · have hk2 : k < 100 := by
      simp only [LTR, List.mem_cons, List.not_mem_nil, or_false] at hk
      omega
    rw [if_neg (show ¬ nI k = (76 : Int32) from fun e => c (nI_inj (b := 76) (by omega) (by omega) e)), nI_1, show nI m + 0 = nI (m + 0) from nI_add m 0]
    unfold lam at h
    rw [if_neg c] at h
    exact h
/-! the class's parts -/
theorem partsC {n : Nat} {s : StT} {k : Nat} (hk : k ∈ LTR) : f_X7_partsOf n s (nI k) = some (nI (pk k), s) := by
  simp only [LTR, List.mem_cons, List.not_mem_nil, or_false] at hk
  rcases hk with rfl | rfl | rfl | rfl | rfl | rfl | rfl | rfl | rfl <;> rfl
theorem part0 {n : Nat} {s : StT} {rT : StT → Int32 → Option (Int32 × StT)} {rP : StT → Int32 → Int32 → Int32 → Option (Int32 × StT)} {k m : Nat} (hk : k ∈ LTR) : g_X3_readPart n rT rP s (nI k) 0 (nI m) = rT s (nI (m + lam k)) := by
  unfold g_X3_readPart
  rw [partsC hk, Option.bind_some]
  simp only []
  have hp := pk_bd (k := k)
  rw [if_pos (show (0 : Int32) < nI (pk k) from (nI_ltI (a := 0) (by omega) (by omega)).mpr (by omega)), if_pos (by decide)]
  unfold f_X3_readPart_20 f_X7_binds
  by_cases c : k = 76
  · rw [if_pos (by rw [c]; rfl), Option.bind_some]
    simp only []
    rw [if_neg (by decide), nI_1, c, bind_eta]
    rfl
  · have hk2 : k < 100 := by
      simp only [LTR, List.mem_cons, List.not_mem_nil, or_false] at hk
      omega
    have e1 : lam k = 0 := by unfold lam; rw [if_neg c]
    rw [if_neg (show ¬ nI k = (76 : Int32) from fun e => c (nI_inj (b := 76) (by omega) (by omega) e)), e1, Nat.add_zero]
    by_cases c2 : k = 67
    · rw [if_pos (by rw [c2]; rfl), if_pos (by decide), Option.bind_some]
      simp only [if_true]
      rw [bind_eta]
    · rw [if_neg (show ¬ nI k = (67 : Int32) from fun e => c2 (nI_inj (b := 67) (by omega) (by omega) e)), Option.bind_some]
      simp only [if_true]
      rw [bind_eta]
theorem partI {n : Nat} {s : StT} {rT : StT → Int32 → Option (Int32 × StT)} {rP : StT → Int32 → Int32 → Int32 → Option (Int32 × StT)} {k m p : Nat} (hk : k ∈ LTR) (hp0 : 0 < p) (hp : p < pk k) : g_X3_readPart n rT rP s (nI k) (nI p) (nI m) = (f_X3_expect n s 44).bind fun q => rT q (nI (m + csb k)) := by
  unfold g_X3_readPart
  rw [partsC hk, Option.bind_some]
  simp only []
  have hpb := pk_bd (k := k)
  rw [if_pos ((nI_ltI (by omega) (by omega)).mpr hp), if_neg (show ¬ nI p ≤ 0 from fun e => absurd ((nI_leI (b := 0) (by omega) (by omega)).mp e) (by omega))]
  have hk2 : k < 100 := by
    simp only [LTR, List.mem_cons, List.not_mem_nil, or_false] at hk
    omega
  have hne : k ≠ 76 := fun e => by rw [e] at hp; have : pk 76 = 1 := rfl; omega
  have e20 : ∀ q : StT, f_X3_readPart_20 n rT rP q (nI k) (nI p) (nI m) = rT q (nI (m + csb k)) := by
    intro q
    unfold f_X3_readPart_20 f_X7_binds
    rw [if_neg (show ¬ nI k = (76 : Int32) from fun e => hne (nI_inj (b := 76) (by omega) (by omega) e))]
    by_cases c2 : k = 67
    · rw [if_pos (by rw [c2]; rfl), if_neg (show ¬ nI p ≤ 0 from fun e => absurd ((nI_leI (b := 0) (by omega) (by omega)).mp e) (by omega)), Option.bind_some]
      simp only []
      rw [if_neg (by decide), nI_1, c2, bind_eta]
      rfl
    · rw [if_neg (show ¬ nI k = (67 : Int32) from fun e => c2 (nI_inj (b := 67) (by omega) (by omega) e)), Option.bind_some]
      simp only [if_true]
      rw [bind_eta, show csb k = 0 by unfold csb; rw [if_neg c2], Nat.add_zero]
  simp only [e20]
theorem partN {n : Nat} {s : StT} {rT : StT → Int32 → Option (Int32 × StT)} {rP : StT → Int32 → Int32 → Int32 → Option (Int32 × StT)} {k p : Nat} {x : Int32} (hk : k ∈ LTR) (hp : pk k ≤ p) (hp3 : p < 10) : g_X3_readPart n rT rP s (nI k) (nI p) x = some (0, s) := by
  unfold g_X3_readPart
  rw [partsC hk, Option.bind_some]
  simp only []
  have hpb := pk_bd (k := k)
  rw [if_neg (fun e => absurd ((nI_ltI (by omega) (by omega)).mp e) (by omega))]
