/-! ===== the JDK's bitCount of an int ===== -/
def qF (x : Int32) : Int32 := x - ((x.toUInt32 >>> ((1 : Int32).toUInt32 &&& Int32.toUInt32 31)).toInt32 &&& (1431655765 : Int32))
def qG (x : Int32) : Int32 := (x &&& (858993459 : Int32)) + ((x.toUInt32 >>> ((2 : Int32).toUInt32 &&& Int32.toUInt32 31)).toInt32 &&& (858993459 : Int32))
def qH (x : Int32) : Int32 := (x + (x.toUInt32 >>> ((4 : Int32).toUInt32 &&& Int32.toUInt32 31)).toInt32) &&& (252645135 : Int32)
def qT (k : Int32) (x : Int32) : Int32 := x + (x.toUInt32 >>> (k.toUInt32 &&& Int32.toUInt32 31)).toInt32
theorem bit32_def (n : Nat) (st : StT) (x : Int32) : f_J6_bitCount_0f7a4 n st x = some ((qT 16 (qT 8 (qH (qG (qF x))))) &&& 63, st) := rfl
def mm (x : Int32) : Nat := x.toBitVec.toNat
theorem mm_lt (x : Int32) : mm x < 4294967296 := x.toBitVec.isLt
theorem mm_ushr (x : Int32) {k : Int32} {s : Nat} (hs : ((k.toUInt32 &&& Int32.toUInt32 31).toBitVec % 32).toNat = s) : mm (x.toUInt32 >>> (k.toUInt32 &&& Int32.toUInt32 31)).toInt32 = mm x / 2 ^ s := by
  show (x.toBitVec >>> ((k.toUInt32 &&& Int32.toUInt32 31).toBitVec % 32)).toNat = _
  rw [BitVec.ushiftRight_eq', hs, BitVec.toNat_ushiftRight, Nat.shiftRight_eq_div_pow]
  rfl
theorem mm_and (x y : Int32) : mm (x &&& y) = mm x &&& mm y := by
  unfold mm; rw [Int32.toBitVec_and, BitVec.toNat_and]
theorem mm_add (x y : Int32) (h : mm x + mm y < 4294967296) : mm (x + y) = mm x + mm y := by
  unfold mm at *; rw [Int32.toBitVec_add, BitVec.toNat_add, Nat.mod_eq_of_lt h]
theorem mm_sub (x y : Int32) (h : mm y ≤ mm x) : mm (x - y) = mm x - mm y := by
  unfold mm at *; rw [Int32.toBitVec_sub, BitVec.toNat_sub_of_le (BitVec.le_def.mpr h)]
theorem popS_lin4 (x : Nat) : popS 4 x = popB (x % 256) + 256 * (popB (x / 256 % 256) + 256 * (popB (x / 256 / 256 % 256) + 256 * (popB (x / 256 / 256 / 256 % 256)))) := by
  simp only [popS, Nat.mul_zero, Nat.add_zero]
theorem cnt_32 (x : Nat) : cnt (fun i => x.testBit i) 32 = popB (x % 256) + (popB (x / 256 % 256) + (popB (x / 256 / 256 % 256) + popB (x / 256 / 256 / 256 % 256))) := by
  rw [show (32 : Nat) = 8 + (8 + (8 + (8 + 0))) by decide, cnt_8, cnt_8, cnt_8, cnt_8]
  rfl
theorem sum4 {p0 p1 p2 p3 x3 x4 x5 : Nat} (h0 : p0 ≤ 8) (h1 : p1 ≤ 8) (h2 : p2 ≤ 8) (h3 : p3 ≤ 8) (e3 : x3 = p0 + 256 * (p1 + 256 * (p2 + 256 * p3))) (e4 : x4 = x3 + x3 / 256) (e5 : x5 = x4 + x4 / 65536) : x5 % 64 = p0 + p1 + p2 + p3 ∧ x3 ≤ 134744072 ∧ x4 ≤ 140000000 ∧ x5 ≤ 150000000 := by
  have d3 : x3 / 256 = p1 + 256 * (p2 + 256 * p3) := by rw [e3]; exact dv8 (by omega)
  rw [d3] at e4
  have f4 : x4 = (p0 + p1 + 256 * (p1 + p2)) + 65536 * (p2 + p3 + 256 * p3) := by omega
  have d4 : x4 / 65536 = p2 + p3 + 256 * p3 := by rw [f4]; exact dv16 (by omega)
  rw [d4] at e5
  omega
theorem bitCount32 (n : Nat) (st : StT) (x : Int32) : f_J6_bitCount_0f7a4 n st x = some (nI (cnt (fun i => b32 x i) 32), st) := by
  rw [bit32_def]
  have hx := mm_lt x
  have a1 : mm (qF x) = pS1 4 (mm x) := by
    unfold qF pS1
    have e : mm ((x.toUInt32 >>> ((1 : Int32).toUInt32 &&& Int32.toUInt32 31)).toInt32 &&& (1431655765 : Int32)) = (mm x / 2) &&& mk 85 4 := by
      rw [mm_and, mm_ushr x (s := 1) (by decide)]
      rfl
    rw [mm_sub _ _ (by rw [e]; exact pS1_le 4 _ (by simpa using hx)), e]
  have hp := pop_all 4 (mm x) (by simpa using hx)
  have m3 : mk 51 4 = 858993459 := by decide
  have a2 : mm (qG (qF x)) = pS2 4 (pS1 4 (mm x)) := by
    unfold qG pS2
    rw [← a1]
    have e1 : mm ((qF x) &&& (858993459 : Int32)) = mm (qF x) &&& mk 51 4 := by rw [mm_and]; rfl
    have e2 : mm (((qF x).toUInt32 >>> ((2 : Int32).toUInt32 &&& Int32.toUInt32 31)).toInt32 &&& (858993459 : Int32)) = (mm (qF x) / 4) &&& mk 51 4 := by
      rw [mm_and, mm_ushr (qF x) (s := 2) (by decide)]
      rfl
    have m1 : mm (qF x) &&& mk 51 4 ≤ mk 51 4 := Nat.and_le_right
    have m2 : (mm (qF x) / 4) &&& mk 51 4 ≤ mk 51 4 := Nat.and_le_right
    rw [mm_add _ _ (by rw [e1, e2]; omega), e1, e2]
  have a2b : pS2 4 (pS1 4 (mm x)) ≤ 1717986918 := by
    unfold pS2
    have m1 : pS1 4 (mm x) &&& mk 51 4 ≤ mk 51 4 := Nat.and_le_right
    have m2 : (pS1 4 (mm x) / 4) &&& mk 51 4 ≤ mk 51 4 := Nat.and_le_right
    omega
  have a3 : mm (qH (qG (qF x))) = popS 4 (mm x) := by
    rw [← hp.1]
    unfold qH pS3
    have e : mm ((qG (qF x)).toUInt32 >>> ((4 : Int32).toUInt32 &&& Int32.toUInt32 31)).toInt32 = mm (qG (qF x)) / 16 := mm_ushr _ (s := 4) (by decide)
    rw [mm_and, mm_add _ _ (by rw [e, a2]; omega), e, a2]
    rfl
  have S := sum4 (popB_le (mm x % 256)) (popB_le (mm x / 256 % 256)) (popB_le (mm x / 256 / 256 % 256)) (popB_le (mm x / 256 / 256 / 256 % 256)) (a3.trans (popS_lin4 (mm x))) rfl rfl
  have t8 : mm (qT 8 (qH (qG (qF x)))) = mm (qH (qG (qF x))) + mm (qH (qG (qF x))) / 256 := by
    have e : mm ((qH (qG (qF x))).toUInt32 >>> ((8 : Int32).toUInt32 &&& Int32.toUInt32 31)).toInt32 = mm (qH (qG (qF x))) / 256 := mm_ushr _ (s := 8) (by decide)
    rw [show qT 8 (qH (qG (qF x))) = qH (qG (qF x)) + ((qH (qG (qF x))).toUInt32 >>> ((8 : Int32).toUInt32 &&& Int32.toUInt32 31)).toInt32 from rfl, mm_add _ _ (by rw [e]; exact Nat.lt_of_le_of_lt S.2.2.1 (by decide)), e]
  have t16 : mm (qT 16 (qT 8 (qH (qG (qF x))))) = mm (qT 8 (qH (qG (qF x)))) + mm (qT 8 (qH (qG (qF x)))) / 65536 := by
    have e : mm ((qT 8 (qH (qG (qF x)))).toUInt32 >>> ((16 : Int32).toUInt32 &&& Int32.toUInt32 31)).toInt32 = mm (qT 8 (qH (qG (qF x)))) / 65536 := mm_ushr _ (s := 16) (by decide)
    rw [show qT 16 (qT 8 (qH (qG (qF x)))) = qT 8 (qH (qG (qF x))) + ((qT 8 (qH (qG (qF x)))).toUInt32 >>> ((16 : Int32).toUInt32 &&& Int32.toUInt32 31)).toInt32 from rfl, mm_add _ _ (by rw [e, t8]; exact Nat.lt_of_le_of_lt S.2.2.2 (by decide)), e]
  have fin : (qT 16 (qT 8 (qH (qG (qF x))))) &&& 63 = nI (mm (qT 16 (qT 8 (qH (qG (qF x))))) % 64) := by
    rw [pk_and _ (m := 63) 6 (by decide)]
    rfl
  rw [fin, t16, t8, S.1]
  have hc := cnt_32 (mm x)
  have e : cnt (fun i => b32 x i) 32 = cnt (fun i => (mm x).testBit i) 32 := rfl
  rw [e, hc]
  congr 2
  simp only [Nat.add_assoc]
