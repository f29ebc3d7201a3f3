/-! ===== the bytes of a name ===== -/
def nc8 (b : Nat) : Bool := lt8 b || dg8 b
theorem nc_bd {b : Nat} (h : nc8 b = true) : 0 < b ∧ b < 128 := by
  unfold nc8 lt8 dg8 at h
  simp only [Bool.or_eq_true, decide_eq_true_eq] at h
  omega
def nxF (tn : Nat) (bt : Nat → Nat) : Nat → Nat → Nat
  | 0, p => p
  | d + 1, p => if p < tn ∧ nc8 (bt p) = true then nxF tn bt d (p + 1) else p
/-- the first place from p on that is of no name -/
def nx (tn : Nat) (bt : Nat → Nat) (p : Nat) : Nat := nxF tn bt (tn - p) p
theorem nx_e {tn : Nat} {bt : Nat → Nat} {p : Nat} : nx tn bt p = if p < tn ∧ nc8 (bt p) = true then nx tn bt (p + 1) else p := by
  unfold nx
  by_cases c : p < tn
  · obtain ⟨d, hd⟩ : ∃ d, tn - p = d + 1 := ⟨tn - p - 1, by omega⟩
    rw [hd, nxF, show tn - (p + 1) = d by omega]
  · rw [show tn - p = 0 by omega, nxF, if_neg (fun e => c e.1)]
theorem nx_bd {tn : Nat} {bt : Nat → Nat} : ∀ (d p : Nat), p + d = tn → p ≤ nx tn bt p ∧ nx tn bt p ≤ tn ∧ ∀ i, p ≤ i → i < nx tn bt p → nc8 (bt i) = true := by
  intro d
  induction d with
  | zero =>
    intro p hp
    rw [nx_e, if_neg (fun e => by omega)]
    exact ⟨Nat.le_refl _, by omega, fun i h1 h2 => by omega⟩
  | succ d ih =>
    intro p hp
    rw [nx_e]
    by_cases c : nc8 (bt p) = true
    · rw [if_pos ⟨by omega, c⟩]
      have := ih (p + 1) (by omega)
      refine ⟨by omega, this.2.1, fun i h1 h2 => ?_⟩
      rcases Nat.eq_or_lt_of_le h1 with e | e
      · rw [← e]; exact c
      · exact this.2.2 i e h2
    · rw [if_neg (fun e => c e.2)]
      exact ⟨Nat.le_refl _, by omega, fun i h1 h2 => by omega⟩
/-- k bytes from q on -/
def bts (bt : Nat → Nat) (q : Nat) : Nat → List Nat
  | 0 => []
  | k + 1 => bts bt q k ++ [bt (q + k)]
theorem bts_len (bt : Nat → Nat) (q : Nat) : ∀ k, (bts bt q k).length = k := by
  intro k
  induction k with
  | zero => rfl
  | succ k ih => rw [bts, List.length_append, ih]; rfl
theorem bts_bd {bt : Nat → Nat} {q : Nat} : ∀ {k : Nat}, (∀ i, i < k → nc8 (bt (q + i)) = true) → ∀ b, b ∈ bts bt q k → 0 < b ∧ b < 128 := by
  intro k
  induction k with
  | zero => intro _ b hb; simp [bts] at hb
  | succ k ih =>
    intro h b hb
    rw [bts, List.mem_append, List.mem_singleton] at hb
    rcases hb with z | z
    · exact ih (fun i hi => h i (by omega)) b z
    · rw [z]; exact nc_bd (h k (by omega))
theorem pk_step {x b : Nat} (hx : x < 256 ^ 6) (hb : b < 256) : (Int64.ofNat x <<< ((8 : Int32).toInt64 &&& 63)) ||| (nI b).toInt64 = Int64.ofNat (x * 256 + b) := by
  apply Int64.toBitVec_inj.mp
  apply BitVec.eq_of_toNat_eq
  have h1 : (Int64.ofNat x <<< ((8 : Int32).toInt64 &&& 63)).toBitVec.toNat = x * 256 := by
    show (BitVec.ofNat 64 x <<< (((8 : Int32).toInt64 &&& 63).toBitVec.smod 64)).toNat = _
    rw [show (((8 : Int32).toInt64 &&& 63).toBitVec.smod 64) = (8 : BitVec 64) by decide]
    show (BitVec.ofNat 64 x <<< 8).toNat = _
    rw [BitVec.toNat_shiftLeft, BitVec.toNat_ofNat, Nat.shiftLeft_eq]
    omega
  have h2 : (nI b).toInt64.toBitVec.toNat = b := by
    rw [nI_l (by omega)]
    show (BitVec.ofNat 64 b).toNat = b
    rw [BitVec.toNat_ofNat]
    omega
  have h3 : (Int64.ofNat (x * 256 + b)).toBitVec.toNat = x * 256 + b := by
    show (BitVec.ofNat 64 (x * 256 + b)).toNat = _
    rw [BitVec.toNat_ofNat]
    omega
  rw [Int64.toBitVec_or, BitVec.toNat_or, h1, h2, h3]
  have := Nat.shiftLeft_add_eq_or_of_lt (i := 8) (b := b) (by omega) x
  rw [Nat.shiftLeft_eq, show (2 : Nat) ^ 8 = 256 by decide] at this
  exact this.symm
theorem isLetter_m1 {n : Nat} {s : StT} : f_X8_isLetter n s (-1) = some (0, s) := by
  unfold f_X8_isLetter
  rw [if_pos (by decide)]
theorem isDigit_m1 {n : Nat} {s : StT} : f_X8_isDigit n s (-1) = some (0, s) := by
  unfold f_X8_isDigit
  rw [if_pos (by decide)]
/-- a name is read sign by sign, seven at most -/
theorem scanName_loop {n : Nat} {s : StT} {tn : Nat} {bt : Nat → Nat} (hT : TxC s tn bt) {q : Nat} (h4 : s.1 4 = nI q) : ∀ (d k fu : Nat) (pk : Int64), q + k + d = tn → d < fu → k ≤ 7 → (k ≤ 6 → pk = Int64.ofNat (pkN (bts bt q k))) → (∀ i, i < k → nc8 (bt (q + i)) = true) → ∃ (m : Nat) (pk' : Int64), f_X8_scanName_14 n fu s (nI k) pk (if q + k < tn then nI (bt (q + k)) else -1) = f_X8_scanName_63 n s (nI m) pk' ∧ (nx tn bt (q + k) - q ≤ 6 → m = nx tn bt (q + k) - q ∧ pk' = Int64.ofNat (pkN (bts bt q (nx tn bt (q + k) - q)))) ∧ (¬ nx tn bt (q + k) - q ≤ 6 → 6 < m ∧ m ≤ 7) := by
  have h1 := hT.1
  intro d
  induction d with
  | zero =>
    intro k fu pk hk hfu hk7 hp hn
    obtain ⟨fu, rfl⟩ : ∃ q, fu = q + 1 := ⟨fu - 1, by omega⟩
    rw [f_X8_scanName_14, if_neg (show ¬ q + k < tn by omega), nx_e, if_neg (show ¬ (q + k < tn ∧ nc8 (bt (q + k)) = true) from fun e => absurd e.1 (by omega)), show q + k - q = k by omega]
    by_cases c7 : k = 7
    · rw [if_pos (show (6 : Int32) < nI k from (nI_ltI (a := 6) (by omega) (by omega)).mpr (by omega))]
      exact ⟨k, pk, rfl, fun e => by omega, fun _ => by omega⟩
    · rw [if_neg (show ¬ (6 : Int32) < nI k from fun e => absurd ((nI_ltI (a := 6) (by omega) (by omega)).mp e) (by omega)), isLetter_m1, Option.bind_some]
      simp only []
      rw [if_pos trivial, isDigit_m1, Option.bind_some]
      simp only []
      rw [if_pos trivial]
      exact ⟨k, pk, rfl, fun _ => ⟨rfl, hp (by omega)⟩, fun e => by omega⟩
  | succ d ih =>
    intro k fu pk hk hfu hk7 hp hn
    obtain ⟨fu, rfl⟩ : ∃ q, fu = q + 1 := ⟨fu - 1, by omega⟩
    have hb := (hT.2.2 (q + k) (by omega)).2
    rw [f_X8_scanName_14, if_pos (show q + k < tn by omega)]
    by_cases c7 : k = 7
    · rw [if_pos (show (6 : Int32) < nI k from (nI_ltI (a := 6) (by omega) (by omega)).mpr (by omega))]
      have := (nx_bd (tn := tn) (bt := bt) (d + 1) (q + k) (by omega)).1
      exact ⟨k, pk, rfl, fun e => by omega, fun _ => by omega⟩
    · rw [if_neg (show ¬ (6 : Int32) < nI k from fun e => absurd ((nI_ltI (a := 6) (by omega) (by omega)).mp e) (by omega)), isLetterC hb, Option.bind_some]
      simp only []
      by_cases c : nc8 (bt (q + k)) = true
      · have go : ∃ (m : Nat) (pk' : Int64), f_X8_scanName_36 n (f_X8_scanName_14 n fu) s (nI k) pk (nI (bt (q + k))) = f_X8_scanName_63 n s (nI m) pk' ∧ (nx tn bt (q + k) - q ≤ 6 → m = nx tn bt (q + k) - q ∧ pk' = Int64.ofNat (pkN (bts bt q (nx tn bt (q + k) - q)))) ∧ (¬ nx tn bt (q + k) - q ≤ 6 → 6 < m ∧ m ≤ 7) := by
          unfold f_X8_scanName_36
          rw [h4, nI_1, nI_add, byteAtC hT (by omega), Option.bind_some, nx_e, if_pos (show q + k < tn ∧ nc8 (bt (q + k)) = true from ⟨by omega, c⟩)]
          have hn' : ∀ i, i < k + 1 → nc8 (bt (q + i)) = true := fun i hi => by
            rcases Nat.eq_or_lt_of_le (Nat.lt_succ_iff.mp hi) with e | e
            · rw [e]; exact c
            · exact hn i e
          exact ih (k + 1) fu _ (by omega) (by omega) (by omega) (fun h6 => by
            rw [hp (by omega), bts, pkN_app]
            exact pk_step (pkN_lt 6 _ (by rw [bts_len]; omega) (bts_bd hn)) hb) hn'
        by_cases cl : lt8 (bt (q + k)) = true
        · rw [if_neg (show ¬ mI (lt8 (bt (q + k))) = 0 by rw [cl]; decide)]
          exact go
        · have cl' : lt8 (bt (q + k)) = false := by simpa using cl
          have cd : dg8 (bt (q + k)) = true := by
            have c2 : (lt8 (bt (q + k)) || dg8 (bt (q + k))) = true := c
            rw [cl'] at c2
            exact c2
          rw [if_pos (show mI (lt8 (bt (q + k))) = 0 by rw [cl']; rfl), isDigitC hb, Option.bind_some]
          simp only []
          rw [if_neg (show ¬ mI (dg8 (bt (q + k))) = 0 by rw [cd]; decide)]
          exact go
      · have c2 : (lt8 (bt (q + k)) || dg8 (bt (q + k))) = false := by
          have : nc8 (bt (q + k)) = false := by simpa using c
          exact this
        have c3 := Bool.or_eq_false_iff.mp c2
        rw [if_pos (show mI (lt8 (bt (q + k))) = 0 by rw [c3.1]; rfl), isDigitC hb, Option.bind_some]
        simp only []
        rw [if_pos (show mI (dg8 (bt (q + k))) = 0 by rw [c3.2]; rfl), nx_e, if_neg (fun e => c e.2), show q + k - q = k by omega]
        exact ⟨k, pk, rfl, fun _ => ⟨rfl, hp (by omega)⟩, fun e => by omega⟩
