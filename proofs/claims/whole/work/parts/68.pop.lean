/-! ===== how many bits: the JDK's bitCount ===== -/
def popB (a : Nat) : Nat := cnt (fun i => a.testBit i) 8
def mk (c : Nat) : Nat → Nat
  | 0 => 0
  | k + 1 => c + 256 * mk c k
def pS1 (k x : Nat) : Nat := x - ((x / 2) &&& mk 85 k)
def pS2 (k x : Nat) : Nat := (x &&& mk 51 k) + ((x / 4) &&& mk 51 k)
def pS3 (k x : Nat) : Nat := (x + x / 16) &&& mk 15 k
def popS (k : Nat) (x : Nat) : Nat := match k with
  | 0 => 0
  | k + 1 => popB (x % 256) + 256 * popS k (x / 256)
theorem and_split {a b m M : Nat} (ha : a < 256) (hm : m < 256) : (a + 256 * b) &&& (m + 256 * M) = (a &&& m) + 256 * (b &&& M) := by
  apply Nat.eq_of_testBit_eq
  intro i
  have h1 : a + 256 * b = 2 ^ 8 * b + a := by omega
  have h2 : m + 256 * M = 2 ^ 8 * M + m := by omega
  have h4 : (a &&& m) < 2 ^ 8 := Nat.lt_of_le_of_lt Nat.and_le_left (by omega)
  have h3 : (a &&& m) + 256 * (b &&& M) = 2 ^ 8 * (b &&& M) + (a &&& m) := by omega
  rw [h1, h2, h3, Nat.testBit_and, Nat.testBit_two_pow_mul_add _ (by omega), Nat.testBit_two_pow_mul_add _ (by omega), Nat.testBit_two_pow_mul_add _ h4]
  split
  · rw [Nat.testBit_and]
  · rw [Nat.testBit_and]
def g1 (a : Nat) : Nat := a - ((a / 2) &&& 85)
def g2 (a : Nat) : Nat := (a &&& 51) + ((a / 4) &&& 51)
set_option maxRecDepth 100000 in
theorem by1 : ∀ a, a < 256 → ∀ c, c < 2 → (a / 2 + 128 * c) &&& 85 = (a / 2) &&& 85 ∧ (a / 2) &&& 85 ≤ a := by decide +kernel
set_option maxRecDepth 100000 in
theorem by2 : ∀ a, a < 256 → ∀ c, c < 4 → (g1 a / 4 + 64 * c) &&& 51 = (g1 a / 4) &&& 51 ∧ g1 a < 256 ∧ g2 (g1 a) ≤ 68 := by decide +kernel
set_option maxRecDepth 100000 in
theorem by3 : ∀ a, a < 256 → ∀ c, c < 5 → (g2 (g1 a) + g2 (g1 a) / 16 + 16 * c) &&& 15 = popB a ∧ g2 (g1 a) + g2 (g1 a) / 16 + 16 * c < 256 ∧ g2 (g1 a) % 16 ≤ 4 := by decide +kernel
theorem pS1_s {k a b : Nat} (ha : a < 256) (hb : (b / 2) &&& mk 85 k ≤ b) : pS1 (k + 1) (a + 256 * b) = g1 a + 256 * pS1 k b ∧ ((a + 256 * b) / 2) &&& mk 85 (k + 1) ≤ a + 256 * b := by
  have e : (a + 256 * b) / 2 = (a / 2 + 128 * (b % 2)) + 256 * (b / 2) := by omega
  have h := by1 a ha (b % 2) (by omega)
  unfold pS1 g1
  rw [e, mk, and_split (by omega) (by omega), h.1]
  omega
theorem pS1_le (k : Nat) : ∀ x, x < 256 ^ k → (x / 2) &&& mk 85 k ≤ x := by
  induction k with
  | zero => intro x hx; simp [mk]
  | succ k ih =>
    intro x hx
    have hb : x / 256 < 256 ^ k := by rw [Nat.pow_succ] at hx; omega
    have := (pS1_s (k := k) (a := x % 256) (b := x / 256) (Nat.mod_lt _ (by omega)) (ih _ hb)).2
    rwa [show x % 256 + 256 * (x / 256) = x by omega] at this
theorem pS2_s {k a B : Nat} (ha : a < 256) : pS2 (k + 1) (g1 a + 256 * B) = g2 (g1 a) + 256 * pS2 k B := by
  have e : (g1 a + 256 * B) / 4 = (g1 a / 4 + 64 * (B % 4)) + 256 * (B / 4) := by omega
  have h := by2 a ha (B % 4) (by omega)
  have h0 := h.2.1
  unfold pS2
  rw [e, mk, and_split h0 (by omega), and_split (by omega) (by omega), h.1]
  unfold g2
  omega
theorem pS3_s {k a B : Nat} (ha : a < 256) (hB : B % 16 ≤ 4) : pS3 (k + 1) (g2 (g1 a) + 256 * B) = popB a + 256 * pS3 k B := by
  have h := by3 a ha (B % 16) (by omega)
  have e : g2 (g1 a) + 256 * B + (g2 (g1 a) + 256 * B) / 16 = (g2 (g1 a) + g2 (g1 a) / 16 + 16 * (B % 16)) + 256 * (B + B / 16) := by
    have h2 := (by2 a ha 0 (by omega)).2.2
    omega
  unfold pS3
  rw [e, mk, and_split h.2.1 (by omega), h.1]
theorem pop_all (k : Nat) : ∀ x, x < 256 ^ k → pS3 k (pS2 k (pS1 k x)) = popS k x ∧ pS2 k (pS1 k x) % 16 ≤ 4 := by
  induction k with
  | zero =>
    intro x hx
    have : x = 0 := by simp at hx; exact hx
    subst this
    exact ⟨by decide, by decide⟩
  | succ k ih =>
    intro x hx
    have hb : x / 256 < 256 ^ k := by rw [Nat.pow_succ] at hx; omega
    have ha : x % 256 < 256 := Nat.mod_lt _ (by omega)
    obtain ⟨i1, i2⟩ := ih _ hb
    have e : x = x % 256 + 256 * (x / 256) := by omega
    have h1 := (pS1_s (k := k) ha (pS1_le k _ hb)).1
    rw [← e] at h1
    rw [h1, pS2_s ha, pS3_s ha i2, i1]
    refine ⟨by rw [popS], ?_⟩
    have h3 := (by3 _ ha 0 (by omega)).2.2
    omega
theorem cnt_congr {P Q : Nat → Bool} : ∀ {m : Nat}, (∀ i, i < m → P i = Q i) → cnt P m = cnt Q m := by
  intro m
  induction m with
  | zero => intro _; rfl
  | succ m ih => intro h; rw [cnt, cnt, ih (fun i hi => h i (by omega)), h m (by omega)]
theorem cnt_8 (x : Nat) : ∀ m, cnt (fun i => x.testBit i) (8 + m) = popB (x % 256) + cnt (fun i => (x / 256).testBit i) m := by
  intro m
  induction m with
  | zero =>
    show cnt _ 8 = popB _ + 0
    rw [Nat.add_zero]
    exact cnt_congr (fun i hi => by
      rw [show (256 : Nat) = 2 ^ 8 by decide, Nat.testBit_mod_two_pow]
      simp [hi])
  | succ m ih =>
    rw [show 8 + (m + 1) = (8 + m) + 1 by omega, cnt, ih, cnt]
    have : (x / 256).testBit m = x.testBit (8 + m) := by
      rw [show (256 : Nat) = 2 ^ 8 by decide, Nat.testBit_div_two_pow, Nat.add_comm]
    rw [this]
    omega
theorem popB_le (a : Nat) : popB a ≤ 8 := cnt_le _ 8
def pF (x : Int64) : Int64 := x - ((x.toUInt64 >>> ((1 : Int32).toInt64.toUInt64 &&& Int64.toUInt64 63)).toInt64 &&& (6148914691236517205 : Int64))
def pG (x : Int64) : Int64 := (x &&& (3689348814741910323 : Int64)) + ((x.toUInt64 >>> ((2 : Int32).toInt64.toUInt64 &&& Int64.toUInt64 63)).toInt64 &&& (3689348814741910323 : Int64))
def pH (x : Int64) : Int64 := (x + (x.toUInt64 >>> ((4 : Int32).toInt64.toUInt64 &&& Int64.toUInt64 63)).toInt64) &&& (1085102592571150095 : Int64)
def pT (k : Int32) (x : Int64) : Int64 := x + (x.toUInt64 >>> (k.toInt64.toUInt64 &&& Int64.toUInt64 63)).toInt64
theorem bit64_def (n : Nat) (st : StT) (x : Int64) : f_J13_bitCount_95d88 n st x = some ((pT 32 (pT 16 (pT 8 (pH (pG (pF x)))))).toInt32 &&& 127, st) := rfl
def nn (x : Int64) : Nat := x.toBitVec.toNat
theorem nn_lt (x : Int64) : nn x < 18446744073709551616 := x.toBitVec.isLt
theorem nn_ushr (x : Int64) {k : Int32} {s : Nat} (hs : ((k.toInt64.toUInt64 &&& Int64.toUInt64 63).toBitVec % 64).toNat = s) : nn (x.toUInt64 >>> (k.toInt64.toUInt64 &&& Int64.toUInt64 63)).toInt64 = nn x / 2 ^ s := by
  show (x.toBitVec >>> ((k.toInt64.toUInt64 &&& Int64.toUInt64 63).toBitVec % 64)).toNat = _
  rw [BitVec.ushiftRight_eq', hs, BitVec.toNat_ushiftRight, Nat.shiftRight_eq_div_pow]
  rfl
theorem nn_and (x y : Int64) : nn (x &&& y) = nn x &&& nn y := by
  unfold nn; rw [Int64.toBitVec_and, BitVec.toNat_and]
theorem nn_add (x y : Int64) (h : nn x + nn y < 18446744073709551616) : nn (x + y) = nn x + nn y := by
  unfold nn at *; rw [Int64.toBitVec_add, BitVec.toNat_add, Nat.mod_eq_of_lt h]
theorem nn_sub (x y : Int64) (h : nn y ≤ nn x) : nn (x - y) = nn x - nn y := by
  unfold nn at *; rw [Int64.toBitVec_sub, BitVec.toNat_sub_of_le (BitVec.le_def.mpr h)]
theorem popS_lin (x : Nat) : popS 8 x = popB (x % 256) + 256 * (popB (x / 256 % 256) + 256 * (popB (x / 256 / 256 % 256) + 256 * (popB (x / 256 / 256 / 256 % 256) + 256 * (popB (x / 256 / 256 / 256 / 256 % 256) + 256 * (popB (x / 256 / 256 / 256 / 256 / 256 % 256) + 256 * (popB (x / 256 / 256 / 256 / 256 / 256 / 256 % 256) + 256 * (popB (x / 256 / 256 / 256 / 256 / 256 / 256 / 256 % 256)))))))) := by
  simp only [popS, Nat.mul_zero, Nat.add_zero]
theorem cnt_64 (x : Nat) : cnt (fun i => x.testBit i) 64 = popB (x % 256) + (popB (x / 256 % 256) + (popB (x / 256 / 256 % 256) + (popB (x / 256 / 256 / 256 % 256) + (popB (x / 256 / 256 / 256 / 256 % 256) + (popB (x / 256 / 256 / 256 / 256 / 256 % 256) + (popB (x / 256 / 256 / 256 / 256 / 256 / 256 % 256) + popB (x / 256 / 256 / 256 / 256 / 256 / 256 / 256 % 256))))))) := by
  rw [show (64 : Nat) = 8 + (8 + (8 + (8 + (8 + (8 + (8 + (8 + 0))))))) by decide, cnt_8, cnt_8, cnt_8, cnt_8, cnt_8, cnt_8, cnt_8, cnt_8]
  rfl
theorem dv8 {a b : Nat} (h : a < 256) : (a + 256 * b) / 256 = b := by omega
theorem dv16 {a b : Nat} (h : a < 65536) : (a + 65536 * b) / 65536 = b := by omega
theorem dv32 {a b : Nat} (h : a < 4294967296) : (a + 4294967296 * b) / 4294967296 = b := by omega
theorem bR {p R B : Nat} (hp : p ≤ 8) (hR : R ≤ B) : p + 256 * R ≤ 8 + 256 * B := by omega
theorem sL1 {p0 p1 p2 R1 R2 R3 x3 x4 : Nat} (r1 : R1 = p1 + 256 * R2) (r2 : R2 = p2 + 256 * R3) (e3 : x3 = p0 + 256 * R1) (e4 : x4 = x3 + R1) : x4 = (p0 + p1 + 256 * (p1 + p2)) + 65536 * (R2 + R3) := by omega
theorem sL2 {p0 p1 p2 p3 R1 R2 R3 R4 x3 x4 x5 : Nat} (r1 : R1 = p1 + 256 * R2) (r2 : R2 = p2 + 256 * R3) (r3 : R3 = p3 + 256 * R4) (e3 : x3 = p0 + 256 * R1) (e4 : x4 = x3 + R1) (e5 : x5 = x4 + (R2 + R3)) : x5 = (p0 + p1 + p2 + p3) + 256 * (R1 + R2 + R3 + R4) := by omega
theorem sLU {a b c d A B C D E : Nat} (h1 : A = a + 256 * B) (h2 : B = b + 256 * C) (h3 : C = c + 256 * D) (h4 : D = d + 256 * E) : A + B + C + D = (a + b + c + d) + 256 * (B + C + D + E) := by omega
theorem sL4 {s0 s1 s2 s3 U1 U2 U3 U4 x : Nat} (h0 : x = s0 + 256 * U1) (h1 : U1 = s1 + 256 * U2) (h2 : U2 = s2 + 256 * U3) (h3 : U3 = s3 + 256 * U4) : x = (s0 + 256 * (s1 + 256 * (s2 + 256 * s3))) + 4294967296 * U4 := by omega
theorem sL5 {s0 s1 s2 s3 : Nat} (h0 : s0 ≤ 32) (h1 : s1 ≤ 32) (h2 : s2 ≤ 32) (h3 : s3 ≤ 32) : s0 + 256 * (s1 + 256 * (s2 + 256 * s3)) < 4294967296 := by omega
theorem sL6 {s0 t U V x5 x6 : Nat} (h5 : x5 = s0 + 256 * U) (h6 : x6 = x5 + (t + 256 * V)) (hs : s0 ≤ 32) (ht : t ≤ 32) : x6 % 128 = s0 + t := by omega
theorem s4 {a b c d : Nat} (ha : a ≤ 8) (hb : b ≤ 8) (hc : c ≤ 8) (hd : d ≤ 8) : a + b + c + d ≤ 32 := by omega
theorem sum8 {p0 p1 p2 p3 p4 p5 p6 p7 x3 x4 x5 x6 : Nat} (h0 : p0 ≤ 8) (h1 : p1 ≤ 8) (h2 : p2 ≤ 8) (h3 : p3 ≤ 8) (h4 : p4 ≤ 8) (h5 : p5 ≤ 8) (h6 : p6 ≤ 8) (h7 : p7 ≤ 8) (e3 : x3 = p0 + 256 * (p1 + 256 * (p2 + 256 * (p3 + 256 * (p4 + 256 * (p5 + 256 * (p6 + 256 * p7))))))) (e4 : x4 = x3 + x3 / 256) (e5 : x5 = x4 + x4 / 65536) (e6 : x6 = x5 + x5 / 4294967296) : x6 % 128 = (p0 + p1 + p2 + p3) + (p4 + p5 + p6 + p7) ∧ x3 ≤ 578721382704613384 ∧ x4 ≤ 600000000000000000 ∧ x5 ≤ 700000000000000000 ∧ x6 ≤ 800000000000000000 := by
  generalize r6 : p6 + 256 * p7 = R6 at e3
  generalize r5 : p5 + 256 * R6 = R5 at e3
  generalize r4 : p4 + 256 * R5 = R4 at e3
  generalize r3 : p3 + 256 * R4 = R3 at e3
  generalize r2 : p2 + 256 * R3 = R2 at e3
  generalize r1 : p1 + 256 * R2 = R1 at e3
  have b7 : p7 + 256 * 0 = p7 := by simp
  have b6 : R6 ≤ 2056 := by rw [← r6]; exact bR h6 h7
  have b5 : R5 ≤ 526344 := by rw [← r5]; exact bR h5 b6
  have b4 : R4 ≤ 134744072 := by rw [← r4]; exact bR h4 b5
  have b3 : R3 ≤ 34494482440 := by rw [← r3]; exact bR h3 b4
  have b2 : R2 ≤ 8830587504648 := by rw [← r2]; exact bR h2 b3
  have b1 : R1 ≤ 2260630401189896 := by rw [← r1]; exact bR h1 b2
  have b0 : x3 ≤ 578721382704613384 := by rw [e3]; exact bR h0 b1
  have d3 : x3 / 256 = R1 := by rw [e3]; exact dv8 (Nat.lt_of_le_of_lt h0 (by decide))
  rw [d3] at e4
  have f4 := sL1 r1.symm r2.symm e3 e4
  have d4 : x4 / 65536 = R2 + R3 := by rw [f4]; exact dv16 (by clear f4 d3 e3 e4 e5 e6 r1 r2 r3 r4 r5 r6; omega)
  rw [d4] at e5
  have f5 := sL2 r1.symm r2.symm r3.symm e3 e4 e5
  have u1 := sLU r1.symm r2.symm r3.symm r4.symm
  have u2 := sLU r2.symm r3.symm r4.symm r5.symm
  have u3 := sLU r3.symm r4.symm r5.symm r6.symm
  have g5 := sL4 f5 u1 u2 u3
  have d5 : x5 / 4294967296 = R4 + R5 + R6 + p7 := by rw [g5]; exact dv32 (sL5 (s4 h0 h1 h2 h3) (s4 h1 h2 h3 h4) (s4 h2 h3 h4 h5) (s4 h3 h4 h5 h6))
  rw [d5] at e6
  have u4 := sLU r4.symm r5.symm r6.symm b7.symm
  have e6' := e6
  rw [u4] at e6'
  have B4 : x4 ≤ 600000000000000000 := by rw [e4]; exact Nat.le_trans (Nat.add_le_add b0 b1) (by decide)
  have B5 : x5 ≤ 700000000000000000 := by rw [e5]; exact Nat.le_trans (Nat.add_le_add B4 (Nat.add_le_add b2 b3)) (by decide)
  refine ⟨sL6 f5 e6' (s4 h0 h1 h2 h3) (s4 h4 h5 h6 h7), b0, B4, B5, ?_⟩
  rw [e6]
  exact Nat.le_trans (Nat.add_le_add B5 (Nat.add_le_add (Nat.add_le_add (Nat.add_le_add b4 b5) b6) h7)) (by decide)
theorem bitCount64 (n : Nat) (st : StT) (x : Int64) : f_J13_bitCount_95d88 n st x = some (nI (cnt (fun i => b64 x i) 64), st) := by
  rw [bit64_def]
  have hx := nn_lt x
  have a1 : nn (pF x) = pS1 8 (nn x) := by
    unfold pF pS1
    have e : nn ((x.toUInt64 >>> ((1 : Int32).toInt64.toUInt64 &&& Int64.toUInt64 63)).toInt64 &&& (6148914691236517205 : Int64)) = (nn x / 2) &&& mk 85 8 := by
      rw [nn_and, nn_ushr x (s := 1) (by decide)]
      rfl
    rw [nn_sub _ _ (by rw [e]; exact pS1_le 8 _ (by simpa using hx)), e]
  have hp := pop_all 8 (nn x) (by simpa using hx)
  have a2 : nn (pG (pF x)) = pS2 8 (pS1 8 (nn x)) := by
    unfold pG pS2
    rw [← a1]
    have e1 : nn ((pF x) &&& (3689348814741910323 : Int64)) = nn (pF x) &&& mk 51 8 := by rw [nn_and]; rfl
    have e2 : nn (((pF x).toUInt64 >>> ((2 : Int32).toInt64.toUInt64 &&& Int64.toUInt64 63)).toInt64 &&& (3689348814741910323 : Int64)) = (nn (pF x) / 4) &&& mk 51 8 := by
      rw [nn_and, nn_ushr (pF x) (s := 2) (by decide)]
      rfl
    have m1 : nn (pF x) &&& mk 51 8 ≤ mk 51 8 := Nat.and_le_right
    have m2 : (nn (pF x) / 4) &&& mk 51 8 ≤ mk 51 8 := Nat.and_le_right
    have m3 : mk 51 8 = 3689348814741910323 := by decide
    rw [nn_add _ _ (by rw [e1, e2]; omega), e1, e2]
  have a2b : pS2 8 (pS1 8 (nn x)) ≤ 7378697629483820646 := by
    unfold pS2
    have m1 : pS1 8 (nn x) &&& mk 51 8 ≤ mk 51 8 := Nat.and_le_right
    have m2 : (pS1 8 (nn x) / 4) &&& mk 51 8 ≤ mk 51 8 := Nat.and_le_right
    have m3 : mk 51 8 = 3689348814741910323 := by decide
    omega
  have a3 : nn (pH (pG (pF x))) = popS 8 (nn x) := by
    rw [← hp.1]
    unfold pH pS3
    have e : nn ((pG (pF x)).toUInt64 >>> ((4 : Int32).toInt64.toUInt64 &&& Int64.toUInt64 63)).toInt64 = nn (pG (pF x)) / 16 := nn_ushr _ (s := 4) (by decide)
    rw [nn_and, nn_add _ _ (by rw [e, a2]; omega), e, a2]
    rfl
  have S := sum8 (popB_le (nn x % 256)) (popB_le (nn x / 256 % 256)) (popB_le (nn x / 256 / 256 % 256)) (popB_le (nn x / 256 / 256 / 256 % 256)) (popB_le (nn x / 256 / 256 / 256 / 256 % 256)) (popB_le (nn x / 256 / 256 / 256 / 256 / 256 % 256)) (popB_le (nn x / 256 / 256 / 256 / 256 / 256 / 256 % 256)) (popB_le (nn x / 256 / 256 / 256 / 256 / 256 / 256 / 256 % 256)) (a3.trans (popS_lin (nn x))) rfl rfl rfl
  have t8 : nn (pT 8 (pH (pG (pF x)))) = nn (pH (pG (pF x))) + nn (pH (pG (pF x))) / 256 := by
    unfold pT
    have e : nn ((pH (pG (pF x))).toUInt64 >>> ((8 : Int32).toInt64.toUInt64 &&& Int64.toUInt64 63)).toInt64 = nn (pH (pG (pF x))) / 256 := nn_ushr _ (s := 8) (by decide)
    rw [nn_add _ _ (by rw [e]; exact Nat.lt_of_le_of_lt S.2.2.1 (by decide)), e]
  have t16 : nn (pT 16 (pT 8 (pH (pG (pF x))))) = nn (pT 8 (pH (pG (pF x)))) + nn (pT 8 (pH (pG (pF x)))) / 65536 := by
    have e : nn ((pT 8 (pH (pG (pF x)))).toUInt64 >>> ((16 : Int32).toInt64.toUInt64 &&& Int64.toUInt64 63)).toInt64 = nn (pT 8 (pH (pG (pF x)))) / 65536 := nn_ushr _ (s := 16) (by decide)
    rw [show pT 16 (pT 8 (pH (pG (pF x)))) = pT 8 (pH (pG (pF x))) + ((pT 8 (pH (pG (pF x)))).toUInt64 >>> ((16 : Int32).toInt64.toUInt64 &&& Int64.toUInt64 63)).toInt64 from rfl, nn_add _ _ (by rw [e, t8]; exact Nat.lt_of_le_of_lt S.2.2.2.1 (by decide)), e]
  have t32 : nn (pT 32 (pT 16 (pT 8 (pH (pG (pF x)))))) = nn (pT 16 (pT 8 (pH (pG (pF x))))) + nn (pT 16 (pT 8 (pH (pG (pF x))))) / 4294967296 := by
    have e : nn ((pT 16 (pT 8 (pH (pG (pF x))))).toUInt64 >>> ((32 : Int32).toInt64.toUInt64 &&& Int64.toUInt64 63)).toInt64 = nn (pT 16 (pT 8 (pH (pG (pF x))))) / 4294967296 := nn_ushr _ (s := 32) (by decide)
    rw [show pT 32 (pT 16 (pT 8 (pH (pG (pF x))))) = pT 16 (pT 8 (pH (pG (pF x)))) + ((pT 16 (pT 8 (pH (pG (pF x))))).toUInt64 >>> ((32 : Int32).toInt64.toUInt64 &&& Int64.toUInt64 63)).toInt64 from rfl, nn_add _ _ (by rw [e, t16, t8]; exact Nat.lt_of_le_of_lt S.2.2.2.2 (by decide)), e]
  have fin : (pT 32 (pT 16 (pT 8 (pH (pG (pF x)))))).toInt32 &&& 127 = nI (nn (pT 32 (pT 16 (pT 8 (pH (pG (pF x)))))) % 128) := by
    rw [pk_and _ (m := 127) 7 (by decide)]
    congr 1
    show (BitVec.signExtend 32 (pT 32 (pT 16 (pT 8 (pH (pG (pF x)))))).toBitVec).toNat % 128 = _
    rw [BitVec.signExtend_eq_setWidth_of_le _ (by decide), BitVec.toNat_setWidth]
    unfold nn
    omega
  rw [fin, t32, t16, t8, S.1]
  have hc := cnt_64 (nn x)
  have e : cnt (fun i => b64 x i) 64 = cnt (fun i => (nn x).testBit i) 64 := rfl
  rw [e, hc]
  congr 2
  simp only [Nat.add_assoc]
