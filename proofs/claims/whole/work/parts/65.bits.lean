/-! ===== bits ===== -/
def b64 (w : Int64) (j : Nat) : Bool := w.toBitVec.getLsbD j
def b32 (w : Int32) (j : Nat) : Bool := w.toBitVec.getLsbD j
set_option maxRecDepth 10000 in
theorem sh64u : ∀ j, j < 64 → ((((nI j).toInt64.toUInt64 &&& Int64.toUInt64 63).toBitVec % 64).toNat = j) := by decide +kernel
set_option maxRecDepth 10000 in
theorem sh64s : ∀ j, j < 64 → ((((nI j).toInt64 &&& 63).toBitVec.smod 64).toNat = j) := by decide +kernel
set_option maxRecDepth 10000 in
theorem sh32u : ∀ j, j < 32 → ((((nI j).toUInt32 &&& Int32.toUInt32 31).toBitVec % 32).toNat = j) := by decide +kernel
set_option maxRecDepth 10000 in
theorem sh32s : ∀ j, j < 32 → (((nI j &&& 31).toBitVec.smod 32).toNat = j) := by decide +kernel
theorem one64 (i : Nat) : (1 : Int64).toBitVec.getLsbD i = decide (i = 0) := by
  show (1#64).getLsbD i = _
  cases i with
  | zero => rfl
  | succ i => simp [BitVec.getLsbD_one]
theorem one32 (i : Nat) : (1 : Int32).toBitVec.getLsbD i = decide (i = 0) := by
  show (1#32).getLsbD i = _
  cases i with
  | zero => rfl
  | succ i => simp [BitVec.getLsbD_one]
theorem low64 (w : Int64) : (w &&& 1) = if w.toBitVec.getLsbD 0 = true then 1 else 0 := by
  apply Int64.toBitVec_inj.mp
  apply BitVec.eq_of_getLsbD_eq
  intro i hi
  rw [Int64.toBitVec_and, BitVec.getLsbD_and, one64]
  by_cases c : w.toBitVec.getLsbD 0 = true
  · rw [if_pos c, one64]
    by_cases q : i = 0
    · subst q; rw [c]; rfl
    · simp [q]
  · rw [if_neg c]
    have c' : w.toBitVec.getLsbD 0 = false := by simpa using c
    by_cases q : i = 0
    · subst q; rw [c']; rfl
    · simp [q]
theorem low32 (w : Int32) : (w &&& 1) = if w.toBitVec.getLsbD 0 = true then 1 else 0 := by
  apply Int32.toBitVec_inj.mp
  apply BitVec.eq_of_getLsbD_eq
  intro i hi
  rw [Int32.toBitVec_and, BitVec.getLsbD_and, one32]
  by_cases c : w.toBitVec.getLsbD 0 = true
  · rw [if_pos c, one32]
    by_cases q : i = 0
    · subst q; rw [c]; rfl
    · simp [q]
  · rw [if_neg c]
    have c' : w.toBitVec.getLsbD 0 = false := by simpa using c
    by_cases q : i = 0
    · subst q; rw [c']; rfl
    · simp [q]
theorem tst64u (w : Int64) {j : Nat} (hj : j < 64) : (w.toUInt64 >>> ((nI j).toInt64.toUInt64 &&& Int64.toUInt64 63)).toInt64 &&& 1 = if b64 w j = true then 1 else 0 := by
  rw [low64]
  have e : (w.toUInt64 >>> ((nI j).toInt64.toUInt64 &&& Int64.toUInt64 63)).toInt64.toBitVec.getLsbD 0 = b64 w j := by
    show (w.toBitVec >>> (((nI j).toInt64.toUInt64 &&& Int64.toUInt64 63).toBitVec % 64)).getLsbD 0 = _
    rw [BitVec.ushiftRight_eq', sh64u j hj, BitVec.getLsbD_ushiftRight]
    rfl
  rw [e]
theorem tst64s (w : Int64) {j : Nat} (hj : j < 64) : (w >>> ((nI j).toInt64 &&& 63)) &&& 1 = if b64 w j = true then 1 else 0 := by
  rw [low64]
  have e : (w >>> ((nI j).toInt64 &&& 63)).toBitVec.getLsbD 0 = b64 w j := by
    show (w.toBitVec.sshiftRight' (((nI j).toInt64 &&& 63).toBitVec.smod 64)).getLsbD 0 = _
    rw [BitVec.sshiftRight_eq', sh64s j hj, BitVec.getLsbD_sshiftRight]
    simp [hj, b64]
  rw [e]
theorem tst32u (w : Int32) {j : Nat} (hj : j < 32) : (w.toUInt32 >>> ((nI j).toUInt32 &&& Int32.toUInt32 31)).toInt32 &&& 1 = if b32 w j = true then 1 else 0 := by
  rw [low32]
  have e : (w.toUInt32 >>> ((nI j).toUInt32 &&& Int32.toUInt32 31)).toInt32.toBitVec.getLsbD 0 = b32 w j := by
    show (w.toBitVec >>> (((nI j).toUInt32 &&& Int32.toUInt32 31).toBitVec % 32)).getLsbD 0 = _
    rw [BitVec.ushiftRight_eq', sh32u j hj, BitVec.getLsbD_ushiftRight]
    rfl
  rw [e]
theorem tst32s (w : Int32) {j : Nat} (hj : j < 32) : (w >>> (nI j &&& 31)) &&& 1 = if b32 w j = true then 1 else 0 := by
  rw [low32]
  have e : (w >>> (nI j &&& 31)).toBitVec.getLsbD 0 = b32 w j := by
    show (w.toBitVec.sshiftRight' ((nI j &&& 31).toBitVec.smod 32)).getLsbD 0 = _
    rw [BitVec.sshiftRight_eq', sh32s j hj, BitVec.getLsbD_sshiftRight]
    simp [hj, b32]
  rw [e]
theorem lgc {x y : Int64} : lg_cmp x y = 0 ↔ x = y := by
  unfold lg_cmp
  by_cases h : x > y
  · rw [if_pos h]
    constructor
    · intro e; exact absurd e (by decide)
    · intro e; rw [e] at h; exact absurd h (by simp)
  · rw [if_neg h]
    by_cases e : x = y
    · rw [if_pos e]; exact ⟨fun _ => e, fun _ => rfl⟩
    · rw [if_neg e]; exact ⟨fun q => absurd q (by decide), fun q => absurd q e⟩
theorem lgc1 (b : Bool) : lg_cmp (if b = true then 1 else 0) 1 = 0 ↔ b = true := by
  rw [lgc]; cases b <;> decide
theorem lgc0 (b : Bool) : lg_cmp (if b = true then 1 else 0) 0 = 0 ↔ b = false := by
  rw [lgc]; cases b <;> decide
theorem b64_or (a b : Int64) (j : Nat) : b64 (a ||| b) j = (b64 a j || b64 b j) := by
  unfold b64; rw [Int64.toBitVec_or, BitVec.getLsbD_or]
theorem b64_and (a b : Int64) (j : Nat) : b64 (a &&& b) j = (b64 a j && b64 b j) := by
  unfold b64; rw [Int64.toBitVec_and, BitVec.getLsbD_and]
theorem b64_not (a : Int64) {j : Nat} (hj : j < 64) : b64 (a ^^^ (-1)) j = !b64 a j := by
  unfold b64
  rw [Int64.toBitVec_xor, BitVec.getLsbD_xor]
  have : (-1 : Int64).toBitVec = BitVec.allOnes 64 := by decide
  rw [this, BitVec.getLsbD_allOnes]
  simp [hj]
theorem b64_0 (j : Nat) : b64 0 j = false := by
  show (0#64).getLsbD j = false
  simp
theorem b64_m1 {j : Nat} (hj : j < 64) : b64 (-1) j = true := by
  unfold b64
  have : (-1 : Int64).toBitVec = BitVec.allOnes 64 := by decide
  rw [this, BitVec.getLsbD_allOnes]
  simp [hj]
theorem b64_shl {k j : Nat} (hk : k < 64) (hj : j < 64) : b64 ((1 : Int64) <<< ((nI k).toInt64 &&& 63)) j = decide (j = k) := by
  show ((1 : Int64).toBitVec <<< (((nI k).toInt64 &&& 63).toBitVec.smod 64)).getLsbD j = _
  rw [BitVec.shiftLeft_eq', sh64s k hk, BitVec.getLsbD_shiftLeft, one64]
  by_cases c : j < k
  · simp [c, show j ≠ k by omega]
  · by_cases d : j = k
    · subst d; simp [hj]
    · simp [c, d, show ¬ j - k = 0 by omega]
theorem b32_or (a b : Int32) (j : Nat) : b32 (a ||| b) j = (b32 a j || b32 b j) := by
  unfold b32; rw [Int32.toBitVec_or, BitVec.getLsbD_or]
theorem b32_and (a b : Int32) (j : Nat) : b32 (a &&& b) j = (b32 a j && b32 b j) := by
  unfold b32; rw [Int32.toBitVec_and, BitVec.getLsbD_and]
theorem b32_0 (j : Nat) : b32 0 j = false := by
  show (0#32).getLsbD j = false
  simp
theorem b32_shl {k j : Nat} (hk : k < 32) (hj : j < 32) : b32 ((1 : Int32) <<< (nI k &&& 31)) j = decide (j = k) := by
  show ((1 : Int32).toBitVec <<< ((nI k &&& 31).toBitVec.smod 32)).getLsbD j = _
  rw [BitVec.shiftLeft_eq', sh32s k hk, BitVec.getLsbD_shiftLeft, one32]
  by_cases c : j < k
  · simp [c, show j ≠ k by omega]
  · by_cases d : j = k
    · subst d; simp [hj]
    · simp [c, d, show ¬ j - k = 0 by omega]
theorem b32_ext {x y : Int32} (h : ∀ j, j < 32 → b32 x j = b32 y j) : x = y := by
  apply Int32.toBitVec_inj.mp
  exact BitVec.eq_of_getLsbD_eq (fun i hi => h i hi)
theorem b64_ext {x y : Int64} (h : ∀ j, j < 64 → b64 x j = b64 y j) : x = y := by
  apply Int64.toBitVec_inj.mp
  exact BitVec.eq_of_getLsbD_eq (fun i hi => h i hi)
