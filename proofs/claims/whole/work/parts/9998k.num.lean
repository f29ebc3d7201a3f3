/-! ===== proof: numbers ===== -/
def pw : Nat → Nat
  | 0 => 1
  | k + 1 => 10 * pw k
theorem pw_pos : ∀ k, 0 < pw k := by
  intro k
  induction k with
  | zero => decide
  | succ k ih => unfold pw; omega
theorem pw_le : ∀ {j k}, j ≤ k → pw j ≤ pw k := by
  intro j k h
  induction k with
  | zero => rw [show j = 0 by omega]; exact Nat.le_refl _
  | succ k ih =>
    by_cases c : j = k + 1
    · rw [c]; exact Nat.le_refl _
    · have := ih (by omega)
      have e : pw (k + 1) = 10 * pw k := rfl
      omega
/-- digits: from the first that counts; from k down -/
def dgP (v : Nat) : Nat → List Nat
  | 0 => [48 + v / 1 % 10]
  | k + 1 => if pw (k + 1) ≤ v then (48 + v / pw (k + 1) % 10) :: dgP v k else dgP v k
def dgA (v : Nat) : Nat → List Nat
  | 0 => [48 + v / 1 % 10]
  | k + 1 => (48 + v / pw (k + 1) % 10) :: dgA v k
theorem dgP_ok (v : Nat) : ∀ k, 1 ≤ (dgP v k).length ∧ ∀ b, b ∈ dgP v k → b < 128 := by
  intro k
  induction k with
  | zero => exact ⟨Nat.le_refl _, fun b hb => by rw [dgP] at hb; rw [List.mem_singleton.mp hb]; omega⟩
  | succ k ih =>
    rw [dgP]
    split
    · exact ⟨by simp, fun b hb => by
        rcases List.mem_cons.mp hb with e | e
        · rw [e]; omega
        · exact ih.2 b e⟩
    · exact ih
theorem dgt {v p : Nat} (hv : v < 2 ^ 31) (hp : 0 < p) (hp2 : p < 2 ^ 31) : (48 : Int32) + ((nI v / nI p) - (nI v / nI p) / (10 : Int32) * (10 : Int32)) = nI (48 + v / p % 10) := by
  have : v / p < 2 ^ 31 := Nat.lt_of_le_of_lt (Nat.div_le_self _ _) hv
  rw [pk_div hv hp hp2, show (10 : Int32) = nI 10 from rfl, pk_rem this (by omega) (by omega), show (48 : Int32) = nI 48 from rfl, nI_add]
theorem pw_div (k : Nat) (h : pw (k + 1) < 2 ^ 31) : nI (pw (k + 1)) / (10 : Int32) = nI (pw k) := by
  rw [show (10 : Int32) = nI 10 from rfl, pk_div h (by omega) (by omega)]
  congr 1
  show 10 * pw k / 10 = pw k
  omega
theorem numC3 {n v : Nat} (hv : v < 2 ^ 31) : ∀ (k fu : Nat) (s : StT), pw k < 2 ^ 31 → f_X10_putNumber_3 n (fu + k + 2) s (nI v) (nI (pw k)) = putL n (dgP v k) s := by
  intro k
  induction k with
  | zero =>
    intro fu s hk
    rw [show fu + 0 + 2 = fu + 1 + 1 by omega, f_X10_putNumber_3, if_neg (show ¬ nI (pw 0) ≤ (0 : Int32) by decide), if_pos (show nI (pw 0) = (1 : Int32) by decide)]
    unfold f_X10_putNumber_17
    rw [if_neg (show ¬ nI (pw 0) = (0 : Int32) by decide), dgt hv (pw_pos 0) hk, dgP]
    show (f_X10_put n s (nI (48 + v / 1 % 10))).bind _ = _
    rw [putL]
    congr 1
  | succ k ih =>
    intro fu s hk
    have h0 := pw_pos (k + 1)
    have h10 : 10 ≤ pw (k + 1) := by have := pw_pos k; unfold pw; omega
    have hk' : pw k < 2 ^ 31 := Nat.lt_of_le_of_lt (pw_le (Nat.le_succ k)) hk
    rw [show fu + (k + 1) + 2 = (fu + k + 2) + 1 by omega, f_X10_putNumber_3, if_neg (nI_nle h0 hk), if_neg (show ¬ nI (pw (k + 1)) = (1 : Int32) from fun e => by have := nI_inj (b := 1) hk (by omega) e; omega), dgP, pw_div k hk]
    by_cases c : pw (k + 1) ≤ v
    · rw [if_pos c, if_neg (nI_nlt c hv)]
      unfold f_X10_putNumber_17
      rw [if_neg (nI_ne0 h0 hk), dgt hv h0 hk, putL, pw_div k hk]
      congr 1
      funext q
      exact ih fu q hk'
    · rw [if_neg c, if_pos (nI_lt (by omega) hk)]
      exact ih fu s hk'
theorem numC {n : Nat} (hn : 100000 ≤ n) {v : Nat} (hv : v < 2 ^ 31) (s : StT) : f_X10_putNumber n s (nI v) = putL n (dgP v 9) s := by
  unfold f_X10_putNumber
  have := numC3 (n := n) hv 9 (n - 11) s (by decide)
  rw [show n - 11 + 9 + 2 = n by omega] at this
  exact this
theorem numM18 {n v : Nat} (hv : v < 2 ^ 31) : ∀ (k fu : Nat) (s : StT), pw k < 2 ^ 31 → f_X12_putNumber_18 n (fu + k + 2) s (nI v) (nI (pw k)) = putR n (dgA v k) s := by
  intro k
  induction k with
  | zero =>
    intro fu s hk
    rw [show fu + 0 + 2 = fu + 1 + 1 by omega, f_X12_putNumber_18, if_neg (show ¬ nI (pw 0) ≤ (0 : Int32) by decide), if_neg (show ¬ nI (pw 0) = (0 : Int32) by decide), dgt hv (pw_pos 0) hk, dgA]
    show (f_X12_put n s (nI (48 + v / 1 % 10))).bind _ = _
    rw [putR]
    congr 1
  | succ k ih =>
    intro fu s hk
    have h0 := pw_pos (k + 1)
    have hk' : pw k < 2 ^ 31 := Nat.lt_of_le_of_lt (pw_le (Nat.le_succ k)) hk
    rw [show fu + (k + 1) + 2 = (fu + k + 2) + 1 by omega, f_X12_putNumber_18, if_neg (nI_nle h0 hk), if_neg (nI_ne0 h0 hk), dgA, dgt hv h0 hk, putR, pw_div k hk]
    congr 1
    funext q
    exact ih fu q hk'
theorem numM2 {n v j : Nat} (hv : v < 10000) (hj : j ≤ 3) (h1 : j = 0 ∨ pw j ≤ v) (h2 : v < pw (j + 1)) : ∀ (k i fu : Nat) (s : StT), i + k = j → f_X12_putNumber_2 n (fu + k + 1) s (nI v) (nI (pw i)) = f_X12_putNumber_18 n n s (nI v) (nI (pw j)) := by
  have b9 : ∀ i, i ≤ 4 → pw i ≤ 10000 := fun i hi => by have := pw_le hi; exact this
  intro k
  induction k with
  | zero =>
    intro i fu s hi
    have hi : i = j := by omega
    subst hi
    have h0 := pw_pos i
    have hb := b9 i (by omega)
    rw [f_X12_putNumber_2, if_neg (nI_ne0 h0 (by omega)), pk_div (by omega) h0 (by omega), if_pos (show nI (v / pw i) < (10 : Int32) from (nI_ltI (b := 10) (Nat.lt_of_le_of_lt (Nat.div_le_self _ _) (by omega)) (by omega)).mpr ?_)]
    rw [Nat.div_lt_iff_lt_mul h0]
    exact h2
  | succ k ih =>
    intro i fu s hi
    have h0 := pw_pos i
    have hb := b9 (i + 1) (by omega)
    have hle : pw (i + 1) ≤ v := by
      rcases h1 with e | e
      · omega
      · exact Nat.le_trans (pw_le (by omega)) e
    have hb0 := b9 i (by omega)
    rw [show fu + (k + 1) + 1 = (fu + k + 1) + 1 by omega, f_X12_putNumber_2, if_neg (nI_ne0 h0 (by omega)), pk_div (by omega) h0 (by omega), if_neg (show ¬ nI (v / pw i) < (10 : Int32) from fun e => by
      have := (nI_ltI (b := 10) (Nat.lt_of_le_of_lt (Nat.div_le_self _ _) (by omega)) (by omega)).mp e
      rw [Nat.div_lt_iff_lt_mul h0] at this
      have e2 : pw (i + 1) = 10 * pw i := rfl
      omega), show (10 : Int32) = nI 10 from rfl, pk_mul, show pw i * 10 = pw (i + 1) by (show pw i * 10 = 10 * pw i); omega]
    exact ih (i + 1) fu s (by omega)
theorem dgPA {v j : Nat} (h1 : j = 0 ∨ pw j ≤ v) (h2 : v < pw (j + 1)) : ∀ k, j ≤ k → dgP v k = dgA v j := by
  have low : ∀ i, i ≤ j → dgP v i = dgA v i := by
    intro i
    induction i with
    | zero => intro _; rfl
    | succ i ih =>
      intro hi
      rw [dgP, dgA, if_pos, ih (by omega)]
      rcases h1 with e | e
      · omega
      · exact Nat.le_trans (pw_le hi) e
  intro k hk
  induction k with
  | zero => rw [show j = 0 by omega]; rfl
  | succ k ih =>
    by_cases c : j = k + 1
    · rw [← c]; exact low j (Nat.le_refl _)
    · rw [dgP, if_neg, ih (by omega)]
      have := pw_le (show j + 1 ≤ k + 1 by omega)
      omega
theorem numM {n : Nat} (hn : 100000 ≤ n) {v : Nat} (hv : v < 10000) (s : StT) : f_X12_putNumber n s (nI v) = putR n (dgP v 9) s := by
  obtain ⟨j, hj, h1, h2⟩ : ∃ j, j ≤ 3 ∧ (j = 0 ∨ pw j ≤ v) ∧ v < pw (j + 1) := by
    have p1 : pw 1 = 10 := rfl
    have p2 : pw 2 = 100 := rfl
    have p3 : pw 3 = 1000 := rfl
    have p4 : pw 4 = 10000 := rfl
    by_cases c1 : v < 10
    · exact ⟨0, by omega, Or.inl rfl, by rw [p1]; exact c1⟩
    · by_cases c2 : v < 100
      · exact ⟨1, by omega, Or.inr (by rw [p1]; omega), by rw [p2]; exact c2⟩
      · by_cases c3 : v < 1000
        · exact ⟨2, by omega, Or.inr (by rw [p2]; omega), by rw [p3]; exact c3⟩
        · exact ⟨3, by omega, Or.inr (by rw [p3]; omega), by rw [p4]; exact hv⟩
  unfold f_X12_putNumber
  have a := numM2 (n := n) hv hj h1 h2 j 0 (n - j - 1) s (by omega)
  rw [show n - j - 1 + j + 1 = n by omega] at a
  have b := numM18 (n := n) (v := v) (by omega) j (n - j - 2) s (Nat.lt_of_le_of_lt (pw_le hj) (by decide))
  rw [show n - j - 2 + j + 2 = n by omega] at b
  rw [show (1 : Int32) = nI (pw 0) from rfl, a, b, dgPA h1 h2 9 (by omega)]
/-! the class's page, also when it is full -/
def PgX (s : StT) (D : List Nat) : Prop := (D.length ≤ 8000 ∧ PgC s D) ∨ (8000 < D.length ∧ s.1 14 = nI 8001)
theorem PgX.of {s : StT} {D : List Nat} (h : PgC s D) : PgX s D := by
  by_cases c : D.length ≤ 8000
  · exact Or.inl ⟨c, h⟩
  · exact Or.inr ⟨by omega, by rw [h.1, show min D.length 8001 = 8001 by omega]⟩
theorem PgX.c {s : StT} {D : List Nat} (h : PgX s D) (hD : D.length ≤ 8000) : PgC s D := by
  rcases h with h | h
  · exact h.2
  · omega
theorem PgX.full {s : StT} {D : List Nat} (h : PgX s D) (hD : 8000 < D.length) : s.1 14 = nI 8001 := by
  rcases h with h | h
  · omega
  · exact h.2
theorem PgX.app {s : StT} {D : List Nat} (h : PgX s D) (hD : 8000 < D.length) (E : List Nat) : PgX s (D ++ E) := Or.inr ⟨by rw [len_app]; omega, h.full hD⟩
theorem PgX.ag {s s' : StT} {D : List Nat} (h : PgX s D) (h14 : s'.1 14 = s.1 14) (h13 : s'.2.1 13 = s.2.1 13) : PgX s' D := by
  rcases h with ⟨a, b⟩ | ⟨a, b⟩
  · exact Or.inl ⟨a, by rw [h14]; exact b.1, fun i x y z => by rw [h13]; exact b.2 i x y z⟩
  · exact Or.inr ⟨a, by rw [h14]; exact b⟩
theorem putX {n : Nat} {s : StT} {D : List Nat} {b : Nat} (h : PgX s D) (hb : b < 128) : ∃ s', f_X10_put n s (nI b) = some s' ∧ PgX s' (D ++ [b]) ∧ AgO s s' := by
  rcases h with ⟨h1, h2⟩ | ⟨h1, h2⟩
  · obtain ⟨s', a, b, c⟩ := putC (n := n) h2 hb
    exact ⟨s', a, PgX.of b, c⟩
  · refine ⟨uF s 14 (nI 8001), ?_, Or.inr ⟨by rw [len_app]; omega, rfl⟩, fun j hj => by simp only [uF_1, hj, if_false], fun _ _ => rfl, rfl⟩
    unfold f_X10_put f_X10_put_30
    rw [h2, if_neg (by decide), if_pos (by decide), if_pos (by decide)]
    rfl
theorem putLX {n : Nat} : ∀ (l : List Nat) (s : StT) (D : List Nat), PgX s D → (∀ b, b ∈ l → b < 128) → ∃ s', putL n l s = some s' ∧ PgX s' (D ++ l) ∧ AgO s s' := by
  intro l
  induction l with
  | nil => intro s D h _; exact ⟨s, rfl, by rw [List.append_nil]; exact h, AgO.rf s⟩
  | cons b l ih =>
    intro s D h hb
    obtain ⟨s1, e1, e2, e3⟩ := putX (n := n) h (hb b (by simp))
    obtain ⟨s2, g1, g2, g3⟩ := ih s1 _ e2 (fun c hc => hb c (by simp [hc]))
    rw [putL, e1, Option.bind_some, g1]
    exact ⟨s2, rfl, by rw [List.append_assoc] at g2; exact g2, e3.tr g3⟩
