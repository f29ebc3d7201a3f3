/-! ===== names ===== -/
def pkN (l : List Nat) : Nat := l.foldl (fun a b => a * 256 + b) 0
def NmC (s : StT) (vn : Nat) (nm : Nat → List Nat) : Prop := ∀ v, v < vn → s.2.2.2 0 v = Int64.ofNat (pkN (nm v))
def NmM (s : StT) (vn : Nat) (nm : Nat → List Nat) : Prop := ∀ v, v < vn → s.2.1 4 v = nI (nm v).length ∧ ∀ i b, (nm v)[i]? = some b → s.2.1 3 (6 * v + i) = nI b
def NmW (vn : Nat) (nm : Nat → List Nat) : Prop := ∀ v, v < vn → 1 ≤ (nm v).length ∧ (nm v).length ≤ 6 ∧ ∀ b, b ∈ nm v → 0 < b ∧ b < 128
def nb (x : Nat) : Nat → List Nat
  | 0 => []
  | i + 1 => (if x / 256 ^ i % 256 = 0 then [] else [x / 256 ^ i % 256]) ++ nb x i
theorem pkN_app (l : List Nat) (b : Nat) : pkN (l ++ [b]) = pkN l * 256 + b := by
  unfold pkN
  rw [List.foldl_append]
  rfl
theorem nb_0 : ∀ i, nb 0 i = [] := by
  intro i
  induction i with
  | zero => rfl
  | succ i ih => rw [nb, ih]; simp
theorem nb_shift {y b : Nat} (h0 : b ≠ 0) (hb : b < 256) : ∀ i, nb (y * 256 + b) (i + 1) = nb y i ++ [b] := by
  intro i
  induction i with
  | zero =>
    rw [nb, nb, nb]
    have : (y * 256 + b) / 256 ^ 0 % 256 = b := by rw [Nat.pow_zero, Nat.div_one]; omega
    rw [this, if_neg h0]
    rfl
  | succ i ih =>
    rw [nb, ih, nb]
    have : (y * 256 + b) / 256 ^ (i + 1) = y / 256 ^ i := by
      rw [Nat.pow_succ, Nat.mul_comm (256 ^ i) 256, ← Nat.div_div_eq_div_mul]
      congr 1
      omega
    rw [this, List.append_assoc]
theorem nb_pk : ∀ (i : Nat) (l : List Nat), l.length ≤ i → (∀ b, b ∈ l → 0 < b ∧ b < 128) → nb (pkN l) i = l := by
  intro i
  induction i with
  | zero =>
    intro l hl _
    have : l = [] := List.eq_nil_of_length_eq_zero (by omega)
    subst this; rfl
  | succ i ih =>
    intro l hl hb
    rcases List.eq_nil_or_concat l with e | ⟨l', b, e⟩
    · subst e; exact nb_0 _
    · rw [List.concat_eq_append] at e
      subst e
      have hbb := hb b (by simp)
      rw [pkN_app, nb_shift (by omega) (by omega), ih l' (by simp at hl; omega) (fun c hc => hb c (by simp [hc]))]
theorem pkN_lt : ∀ (k : Nat) (l : List Nat), l.length ≤ k → (∀ b, b ∈ l → 0 < b ∧ b < 128) → pkN l < 256 ^ k := by
  intro k
  induction k with
  | zero =>
    intro l hl _
    have : l = [] := List.eq_nil_of_length_eq_zero (by omega)
    subst this; decide
  | succ k ih =>
    intro l hl hb
    rcases List.eq_nil_or_concat l with e | ⟨l', b, e⟩
    · subst e; exact Nat.pos_of_ne_zero (by simp)
    · rw [List.concat_eq_append] at e
      subst e
      have hbb := hb b (by simp)
      have := ih l' (by simp at hl; omega) (fun c hc => hb c (by simp [hc]))
      rw [pkN_app, Nat.pow_succ]
      omega
theorem nn_ofNat {x : Nat} (h : x < 256 ^ 6) : nn (Int64.ofNat x) = x := by
  unfold nn
  show (BitVec.ofNat 64 x).toNat = x
  rw [BitVec.toNat_ofNat]
  exact Nat.mod_eq_of_lt (Nat.lt_of_lt_of_le h (by decide))
theorem nameByte (x : Int64) {i : Nat} (hi : i < 6) : (x.toUInt64 >>> ((nI (8 * i)).toInt64.toUInt64 &&& Int64.toUInt64 63)).toInt64.toInt32 &&& (255 : Int32) = nI (nn x / 256 ^ i % 256) := by
  rw [pk_and _ (m := 255) 8 (by decide)]
  have e := nn_ushr x (k := nI (8 * i)) (s := 8 * i) (sh64u (8 * i) (by omega))
  congr 1
  show (BitVec.signExtend 32 (x.toUInt64 >>> ((nI (8 * i)).toInt64.toUInt64 &&& Int64.toUInt64 63)).toInt64.toBitVec).toNat % 256 = _
  rw [BitVec.signExtend_eq_setWidth_of_le _ (by decide), BitVec.toNat_setWidth]
  unfold nn at e
  rw [e, show (256 : Nat) ^ i = 2 ^ (8 * i) by rw [Nat.pow_mul]]
  unfold nn
  omega
theorem putL_app (n : Nat) : ∀ (l1 l2 : List Nat) (s : StT), putL n (l1 ++ l2) s = (putL n l1 s).bind fun q => putL n l2 q := by
  intro l1
  induction l1 with
  | nil => intro l2 s; rfl
  | cons b l ih =>
    intro l2 s
    rw [List.cons_append, putL, putL]
    cases f_X10_put n s (nI b) with
    | none => rfl
    | some q => exact ih l2 q
theorem nI_m8 {i : Nat} : nI (8 * (i + 1)) + (-8 : Int32) = nI (8 * i) := by
  rw [show 8 * (i + 1) = 8 * i + 8 by omega, ← nI_add, show nI 8 = (8 : Int32) from rfl, Int32.add_assoc, show (8 : Int32) + -8 = 0 by decide, Int32.add_zero]
theorem putName_loop {n : Nat} {x : Int64} : ∀ (i fu : Nat) (s : StT), i < 6 → i + 1 < fu → f_X10_putName_3 n fu s x (nI (8 * i)) = putL n (nb (nn x) (i + 1)) s := by
  intro i
  induction i with
  | zero =>
    intro fu s hi hfu
    obtain ⟨fu, rfl⟩ : ∃ q, fu = q + 2 := ⟨fu - 2, by omega⟩
    have hend : ∀ q : StT, f_X10_putName_3 n (fu + 1) q x (nI (8 * 0) + -8) = some q := by
      intro q
      rw [f_X10_putName_3, if_pos (by decide)]
    rw [f_X10_putName_3, if_neg (nI_nneg (by omega)), nameByte x (by omega), nb, nb, List.append_nil]
    by_cases c : nn x / 256 ^ 0 % 256 = 0
    · rw [if_pos c, if_pos (by rw [c]; rfl), hend]; rfl
    · rw [if_neg c, if_neg (show ¬ nI (nn x / 256 ^ 0 % 256) = (0 : Int32) from fun e => c (nI_inj (b := 0) (by omega) (by omega) e)), putL]
      congr 1
  | succ i ih =>
    intro fu s hi hfu
    obtain ⟨fu, rfl⟩ : ∃ q, fu = q + 1 := ⟨fu - 1, by omega⟩
    rw [f_X10_putName_3, if_neg (nI_nneg (by omega)), nameByte x (by omega), nb, nI_m8]
    by_cases c : nn x / 256 ^ (i + 1) % 256 = 0
    · rw [if_pos c, if_pos (by rw [c]; rfl)]
      exact ih fu s (by omega) (by omega)
    · rw [if_neg c, if_neg (show ¬ nI (nn x / 256 ^ (i + 1) % 256) = (0 : Int32) from fun e => c (nI_inj (b := 0) (by omega) (by omega) e)), List.cons_append, List.nil_append, putL]
      congr 1
      funext q
      exact ih fu q (by omega) (by omega)
theorem putNameC {n : Nat} (hn : 100000 ≤ n) {s : StT} {l : List Nat} (hl : l.length ≤ 6) (hb : ∀ b, b ∈ l → 0 < b ∧ b < 128) : f_X10_putName n s (Int64.ofNat (pkN l)) = putL n l s := by
  unfold f_X10_putName
  have := putName_loop (n := n) (x := Int64.ofNat (pkN l)) 5 n s (by omega) (by omega)
  rw [nn_ofNat (pkN_lt 6 l hl hb), nb_pk 6 l hl hb] at this
  exact this
theorem six : ∀ v, v < 24 → (6 : Int32) * nI v = nI (6 * v) := by decide +kernel
theorem nameM_loop {n : Nat} {s0 : StT} {f v : Nat} {l : List Nat} (hf : f < 2000) (h1 : s0.2.1 1 f = nI v) (hv : v < 24) (hs : s0.2.1 4 v = nI l.length) (hL : l.length ≤ 6) (hb : ∀ b, b ∈ l → b < 128) (hm : ∀ i b, l[i]? = some b → s0.2.1 3 (6 * v + i) = nI b) : ∀ (d i fu : Nat) (s : StT) (D : List Nat), i + d = l.length → d < fu → PgM s D → AgQ s0 s → ∃ s', f_X12_putFormula_92 n fu s (nI f) (nI i) = some s' ∧ PgM s' (D ++ l.drop i) ∧ AgQ s0 s' := by
  intro d
  induction d with
  | zero =>
    intro i fu s D hi hfu hP hA
    obtain ⟨fu, rfl⟩ : ∃ q, fu = q + 1 := ⟨fu - 1, by omega⟩
    rw [f_X12_putFormula_92, inB_nI (show f < 4200 by omega) (by omega), if_pos rfl, nI_cl (by omega), hA.2.1 1 (by decide), h1, inB_nI hv (by omega), if_pos rfl, nI_cl (by omega), hA.2.1 4 (by decide), hs, if_pos ((nI_leI (by omega) (by omega)).mpr (by omega))]
    exact ⟨s, rfl, by rw [List.drop_of_length_le (by omega), List.append_nil]; exact hP, hA⟩
  | succ d ih =>
    intro i fu s D hi hfu hP hA
    obtain ⟨fu, rfl⟩ : ∃ q, fu = q + 1 := ⟨fu - 1, by omega⟩
    have hi2 : i < l.length := by omega
    have hli : l[i]? = some l[i] := List.getElem?_eq_getElem hi2
    obtain ⟨s1, e1, e2, e3⟩ := putM (n := n) hP (hb l[i] (List.getElem_mem hi2))
    rw [f_X12_putFormula_92, inB_nI (show f < 4200 by omega) (by omega), if_pos rfl, nI_cl (show f < 2 ^ 31 by omega), hA.2.1 1 (by decide), h1, inB_nI hv (by omega), if_pos rfl, nI_cl (show v < 2 ^ 31 by omega), hA.2.1 4 (by decide), hs, if_neg (fun e => absurd ((nI_leI (by omega) (by omega)).mp e) (by omega)), if_pos rfl, show (6 : Int32) * nI v + nI i = nI (6 * v + i) by rw [six v hv, nI_add], inB_nI (show 6 * v + i < 144 by omega) (by omega), if_pos rfl, nI_cl (show 6 * v + i < 2 ^ 31 by omega), hA.2.1 3 (by decide), hm i _ hli, e1, Option.bind_some, nI_1]
    obtain ⟨s2, g1, g2, g3⟩ := ih (i + 1) fu s1 _ (by omega) (by omega) e2 (hA.tr e3)
    refine ⟨s2, g1, ?_, g3⟩
    rw [List.append_assoc, List.singleton_append, ← List.drop_eq_getElem_cons hi2] at g2
    exact g2
