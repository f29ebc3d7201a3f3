/-! ===== the text, byte by byte ===== -/
def sb (b : Nat) : Int32 := (nI b).toInt8.toInt32
def bo (x : Int32) : Nat := x.toBitVec.toNat % 256
theorem bo_lt (x : Int32) : bo x < 256 := Nat.mod_lt _ (by decide)
theorem bo_and (x : Int32) : x &&& 255 = nI (bo x) := by
  rw [pk_and x (m := 255) 8 (by decide)]
  rfl
theorem bo_sb {x : Int32} (h : x.toInt8.toInt32 = x) : x = sb (bo x) := by
  have : (nI (bo x)).toInt8 = x.toInt8 := by
    apply Int8.toBitVec_inj.mp
    show BitVec.signExtend 8 (nI (bo x)).toBitVec = BitVec.signExtend 8 x.toBitVec
    rw [BitVec.signExtend_eq_setWidth_of_le _ (by decide), BitVec.signExtend_eq_setWidth_of_le _ (by decide)]
    apply BitVec.eq_of_toNat_eq
    rw [BitVec.toNat_setWidth, BitVec.toNat_setWidth]
    show (BitVec.ofNat 32 (bo x)).toNat % 2 ^ 8 = x.toBitVec.toNat % 2 ^ 8
    rw [BitVec.toNat_ofNat]
    have := bo_lt x
    unfold bo at *
    omega
  unfold sb
  rw [this, h]
def lt8 (b : Nat) : Bool := decide (97 ≤ b ∧ b ≤ 122)
def dg8 (b : Nat) : Bool := decide (48 ≤ b ∧ b ≤ 57)
def bl8 (b : Nat) : Bool := decide (b = 9 ∨ b = 10 ∨ b = 13 ∨ b = 32)
def sg8 (tm : Bool) (b : Nat) : Bool := decide (b = 40 ∨ b = 41 ∨ b = 38 ∨ b = 124 ∨ b = 126) || (tm && decide (b = 44 ∨ b = 84 ∨ b = 76 ∨ b = 65 ∨ b = 80 ∨ b = 70 ∨ b = 83 ∨ b = 73 ∨ b = 74 ∨ b = 67 ∨ b = 88))
theorem lt_C : ∀ b, b < 256 → (if nI b < (97 : Int32) then (0 : Int32) else if (122 : Int32) < nI b then 0 else 1) = mI (lt8 b) := by decide +kernel
theorem lt_M : ∀ b, b < 256 → (if sb b < (97 : Int32) then (0 : Int32) else if (122 : Int32) < sb b then 0 else 1) = mI (lt8 b) := by decide +kernel
theorem dg_C : ∀ b, b < 256 → (if nI b < (48 : Int32) then (0 : Int32) else if (57 : Int32) < nI b then 0 else 1) = mI (dg8 b) := by decide +kernel
theorem dg_M : ∀ b, b < 256 → (if sb b < (48 : Int32) then (0 : Int32) else if (57 : Int32) < sb b then 0 else 1) = mI (dg8 b) := by decide +kernel
theorem sb_low : ∀ b, b < 256 → ∀ c, c < 128 → (sb b = nI c ↔ b = c) := by decide +kernel
theorem isLetterC {n : Nat} {s : StT} {b : Nat} (h : b < 256) : f_X8_isLetter n s (nI b) = some (mI (lt8 b), s) := by
  unfold f_X8_isLetter
  rw [← lt_C b h]
  split
  · rfl
  · split <;> rfl
theorem isDigitC {n : Nat} {s : StT} {b : Nat} (h : b < 256) : f_X8_isDigit n s (nI b) = some (mI (dg8 b), s) := by
  unfold f_X8_isDigit
  rw [← dg_C b h]
  split
  · rfl
  · split <;> rfl
theorem isSmallM {n : Nat} {s : StT} {b : Nat} (h : b < 256) : f_X12_isSmall n s (sb b) = some (mI (lt8 b), s) := by
  unfold f_X12_isSmall
  rw [← lt_M b h]
  split
  · rfl
  · split <;> rfl
theorem isDigitM {n : Nat} {s : StT} {b : Nat} (h : b < 256) : f_X12_isDigit n s (sb b) = some (mI (dg8 b), s) := by
  unfold f_X12_isDigit
  rw [← dg_M b h]
  split
  · rfl
  · split <;> rfl
/-- the text -/
def TxC (s : StT) (tn : Nat) (bt : Nat → Nat) : Prop := tn ≤ 3000 ∧ s.1 0 = nI tn ∧ ∀ i, i < tn → s.2.1 1 i &&& 255 = nI (bt i) ∧ bt i < 256
def TxM (s : StT) (tn : Nat) (bt : Nat → Nat) : Prop := tn ≤ 3000 ∧ s.1 3 = nI tn ∧ ∀ i, i < tn → s.2.1 6 i = sb (bt i) ∧ bt i < 256
theorem RelT.tx {sC sM : StT} {tn : Nat} {tx : Nat → Int32} (h : RelT sC sM tn tx) : TxC sC tn (fun i => bo (tx i)) ∧ TxM sM tn (fun i => bo (tx i)) := by
  refine ⟨⟨h.1, h.2.1, fun i hi => ⟨?_, bo_lt _⟩⟩, ⟨h.1, h.2.2.1, fun i hi => ⟨?_, bo_lt _⟩⟩⟩
  · rw [(h.2.2.2 i hi).1]; exact bo_and _
  · rw [(h.2.2.2 i hi).2.1]; exact bo_sb (h.2.2.2 i hi).2.2
theorem byteAtC {n : Nat} {s : StT} {tn : Nat} {bt : Nat → Nat} (h : TxC s tn bt) {i : Nat} (hi : i < 2 ^ 31) : f_X8_byteAt n s (nI i) = some (if i < tn then nI (bt i) else -1, s) := by
  have h1 := h.1
  unfold f_X8_byteAt
  rw [if_neg (nI_nneg hi), h.2.1]
  by_cases c : i < tn
  · rw [if_neg (fun e => absurd ((nI_leI (by omega) hi).mp e) (by omega)), if_neg (show ¬ (3000 : Int32) ≤ nI i from fun e => absurd ((nI_leI (a := 3000) (by omega) hi).mp e) (by omega)), inB_nI (show i < 3000 by omega) (by omega), if_pos rfl, nI_cl hi, (h.2.2 i c).1, if_pos c]
  · rw [if_pos ((nI_leI (by omega) hi).mpr (by omega)), if_neg c]
theorem signAtM {n : Nat} {s : StT} {tn : Nat} {bt : Nat → Nat} (h : TxM s tn bt) {i : Nat} (hi : i < 2 ^ 31) : f_X12_signAt n s (nI i) = some (if i < tn then sb (bt i) else -1, s) := by
  have h1 := h.1
  unfold f_X12_signAt
  rw [h.2.1]
  by_cases c : i < tn
  · rw [if_neg (fun e => absurd ((nI_leI (by omega) hi).mp e) (by omega)), inB_nI (show i < 3000 by omega) (by omega), if_pos rfl, nI_cl hi, (h.2.2 i c).1, if_pos c]
  · rw [if_pos ((nI_leI (by omega) hi).mpr (by omega)), if_neg c]
theorem bl_C : ∀ b, b < 256 → (if nI b = (9 : Int32) then (1 : Int32) else if nI b = (10 : Int32) then 1 else if nI b = (13 : Int32) then 1 else if nI b = (32 : Int32) then 1 else 0) = mI (bl8 b) := by decide +kernel
theorem isBlankC {n : Nat} {s : StT} {b : Nat} (h : b < 256) : f_X8_isBlank n s (nI b) = some (mI (bl8 b), s) := by
  unfold f_X8_isBlank
  rw [← bl_C b h]
  split
  · rfl
  · split
    · rfl
    · split
      · rfl
      · split <;> rfl
