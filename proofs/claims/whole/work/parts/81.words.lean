/-! ===== words and names ===== -/
theorem len_s4 (n : Nat) (s : StT) : f_J0_length_8abf5_s4 n s = some (nI 2, s) := by
  unfold f_J0_length_8abf5_s4 f_J0_coder_7d493_s4
  rw [if_neg (by decide), if_pos (show isB 0 = true by decide), Option.bind_some, show (2 : Int32) >>> ((0 : Int32) &&& 31) = nI 2 by decide]
theorem len_s3 (n : Nat) (s : StT) : f_J0_length_8abf5_s3 n s = some (nI 5, s) := by
  unfold f_J0_length_8abf5_s3 f_J0_coder_7d493_s3
  rw [if_neg (by decide), if_pos (show isB 0 = true by decide), Option.bind_some, show (5 : Int32) >>> ((0 : Int32) &&& 31) = nI 5 by decide]
theorem len_s2 (n : Nat) (s : StT) : f_J0_length_8abf5_s2 n s = some (nI 4, s) := by
  unfold f_J0_length_8abf5_s2 f_J0_coder_7d493_s2
  rw [if_neg (by decide), if_pos (show isB 0 = true by decide), Option.bind_some, show (4 : Int32) >>> ((0 : Int32) &&& 31) = nI 4 by decide]
theorem chk {n : Nat} {s : StT} {i m : Nat} (h : i < m) (hm : m < 2 ^ 31) : f_J0_checkIndex_df160 n s (nI i) (nI m) = some s := by
  unfold f_J0_checkIndex_df160 f_J3_checkIndex_8e157_n
  rw [if_neg (nI_nneg (by omega)), if_pos ((nI_ltI (by omega) hm).mpr h)]
  rfl
theorem ch_s4_0 (n : Nat) (s : StT) : f_J0_charAt_5068e_s4 n s (nI 0) = some (nI 45, s) := by
  unfold f_J0_charAt_5068e_s4 f_J0_isLatin1_aae02_s4 f_J1_charAt_3b067_v4
  simp only [i10, if_false, if_true, bnd]
  rw [show (2 : Int32) = nI 2 from rfl, chk (by decide) (by decide), Option.bind_some, inB_nI (by decide) (by decide), if_pos rfl, show ((((strByt.getD 4 []).getD ((nI 0).toNatClampNeg) 0) &&& (255 : Int32)).toUInt32 % 65536).toInt32 = nI 45 by decide, if_pos (show isC (nI 45) = true by decide), Option.bind_some, if_pos (show isC (nI 45) = true by decide)]
theorem ch_s4_1 (n : Nat) (s : StT) : f_J0_charAt_5068e_s4 n s (nI 1) = some (nI 62, s) := by
  unfold f_J0_charAt_5068e_s4 f_J0_isLatin1_aae02_s4 f_J1_charAt_3b067_v4
  simp only [i10, if_false, if_true, bnd]
  rw [show (2 : Int32) = nI 2 from rfl, chk (by decide) (by decide), Option.bind_some, inB_nI (by decide) (by decide), if_pos rfl, show ((((strByt.getD 4 []).getD ((nI 1).toNatClampNeg) 0) &&& (255 : Int32)).toUInt32 % 65536).toInt32 = nI 62 by decide, if_pos (show isC (nI 62) = true by decide), Option.bind_some, if_pos (show isC (nI 62) = true by decide)]
theorem word_s4 {n : Nat} {s : StT} (hn : 100000 ≤ n) : f_X10_putWord_s4 n s = putL n [45, 62] s := by
  unfold f_X10_putWord_s4
  have hst : ∀ (fu i b : Nat) (s : StT), i < 2 → f_J0_charAt_5068e_s4 n s (nI i) = some (nI b, s) → f_X10_putWord_s4_2 n (fu + 1) s (nI i) = (f_X10_put n s (nI b)).bind fun q => f_X10_putWord_s4_2 n fu q (nI (i + 1)) := by
    intro fu i b s hi hc
    rw [f_X10_putWord_s4_2, len_s4, Option.bind_some, if_neg (fun e => absurd ((nI_leI (by omega) (by omega)).mp e) (by omega)), hc, Option.bind_some, nI_1]
  have hend : ∀ (fu : Nat) (s : StT), f_X10_putWord_s4_2 n (fu + 1) s (nI 2) = some s := by
    intro fu s
    rw [f_X10_putWord_s4_2, len_s4, Option.bind_some, if_pos (Int32.le_refl _)]
  obtain ⟨fu, hfu⟩ : ∃ q, n = q + 3 := ⟨n - 3, by omega⟩
  have key : ∀ s : StT, f_X10_putWord_s4_2 n (fu + 3) s (nI 0) = putL n [45, 62] s := by
    intro s
    simp only [putL]
    rw [hst (fu + 2) 0 45 _ (by decide) (ch_s4_0 n _)]
    congr 1; funext s
    rw [hst (fu + 1) 1 62 _ (by decide) (ch_s4_1 n _)]
    congr 1; funext s
    exact hend fu s
  have := key s
  rw [nI_0] at this
  rw [← this, ← hfu]
theorem ch_s3_0 (n : Nat) (s : StT) : f_J0_charAt_5068e_s3 n s (nI 0) = some (nI 102, s) := by
  unfold f_J0_charAt_5068e_s3 f_J0_isLatin1_aae02_s3 f_J1_charAt_3b067_v3
  simp only [i10, if_false, if_true, bnd]
  rw [show (5 : Int32) = nI 5 from rfl, chk (by decide) (by decide), Option.bind_some, inB_nI (by decide) (by decide), if_pos rfl, show ((((strByt.getD 3 []).getD ((nI 0).toNatClampNeg) 0) &&& (255 : Int32)).toUInt32 % 65536).toInt32 = nI 102 by decide, if_pos (show isC (nI 102) = true by decide), Option.bind_some, if_pos (show isC (nI 102) = true by decide)]
theorem ch_s3_1 (n : Nat) (s : StT) : f_J0_charAt_5068e_s3 n s (nI 1) = some (nI 97, s) := by
  unfold f_J0_charAt_5068e_s3 f_J0_isLatin1_aae02_s3 f_J1_charAt_3b067_v3
  simp only [i10, if_false, if_true, bnd]
  rw [show (5 : Int32) = nI 5 from rfl, chk (by decide) (by decide), Option.bind_some, inB_nI (by decide) (by decide), if_pos rfl, show ((((strByt.getD 3 []).getD ((nI 1).toNatClampNeg) 0) &&& (255 : Int32)).toUInt32 % 65536).toInt32 = nI 97 by decide, if_pos (show isC (nI 97) = true by decide), Option.bind_some, if_pos (show isC (nI 97) = true by decide)]
theorem ch_s3_2 (n : Nat) (s : StT) : f_J0_charAt_5068e_s3 n s (nI 2) = some (nI 108, s) := by
  unfold f_J0_charAt_5068e_s3 f_J0_isLatin1_aae02_s3 f_J1_charAt_3b067_v3
  simp only [i10, if_false, if_true, bnd]
  rw [show (5 : Int32) = nI 5 from rfl, chk (by decide) (by decide), Option.bind_some, inB_nI (by decide) (by decide), if_pos rfl, show ((((strByt.getD 3 []).getD ((nI 2).toNatClampNeg) 0) &&& (255 : Int32)).toUInt32 % 65536).toInt32 = nI 108 by decide, if_pos (show isC (nI 108) = true by decide), Option.bind_some, if_pos (show isC (nI 108) = true by decide)]
theorem ch_s3_3 (n : Nat) (s : StT) : f_J0_charAt_5068e_s3 n s (nI 3) = some (nI 115, s) := by
  unfold f_J0_charAt_5068e_s3 f_J0_isLatin1_aae02_s3 f_J1_charAt_3b067_v3
  simp only [i10, if_false, if_true, bnd]
  rw [show (5 : Int32) = nI 5 from rfl, chk (by decide) (by decide), Option.bind_some, inB_nI (by decide) (by decide), if_pos rfl, show ((((strByt.getD 3 []).getD ((nI 3).toNatClampNeg) 0) &&& (255 : Int32)).toUInt32 % 65536).toInt32 = nI 115 by decide, if_pos (show isC (nI 115) = true by decide), Option.bind_some, if_pos (show isC (nI 115) = true by decide)]
theorem ch_s3_4 (n : Nat) (s : StT) : f_J0_charAt_5068e_s3 n s (nI 4) = some (nI 101, s) := by
  unfold f_J0_charAt_5068e_s3 f_J0_isLatin1_aae02_s3 f_J1_charAt_3b067_v3
  simp only [i10, if_false, if_true, bnd]
  rw [show (5 : Int32) = nI 5 from rfl, chk (by decide) (by decide), Option.bind_some, inB_nI (by decide) (by decide), if_pos rfl, show ((((strByt.getD 3 []).getD ((nI 4).toNatClampNeg) 0) &&& (255 : Int32)).toUInt32 % 65536).toInt32 = nI 101 by decide, if_pos (show isC (nI 101) = true by decide), Option.bind_some, if_pos (show isC (nI 101) = true by decide)]
theorem word_s3 {n : Nat} {s : StT} (hn : 100000 ≤ n) : f_X10_putWord_s3 n s = putL n [102, 97, 108, 115, 101] s := by
  unfold f_X10_putWord_s3
  have hst : ∀ (fu i b : Nat) (s : StT), i < 5 → f_J0_charAt_5068e_s3 n s (nI i) = some (nI b, s) → f_X10_putWord_s3_2 n (fu + 1) s (nI i) = (f_X10_put n s (nI b)).bind fun q => f_X10_putWord_s3_2 n fu q (nI (i + 1)) := by
    intro fu i b s hi hc
    rw [f_X10_putWord_s3_2, len_s3, Option.bind_some, if_neg (fun e => absurd ((nI_leI (by omega) (by omega)).mp e) (by omega)), hc, Option.bind_some, nI_1]
  have hend : ∀ (fu : Nat) (s : StT), f_X10_putWord_s3_2 n (fu + 1) s (nI 5) = some s := by
    intro fu s
    rw [f_X10_putWord_s3_2, len_s3, Option.bind_some, if_pos (Int32.le_refl _)]
  obtain ⟨fu, hfu⟩ : ∃ q, n = q + 6 := ⟨n - 6, by omega⟩
  have key : ∀ s : StT, f_X10_putWord_s3_2 n (fu + 6) s (nI 0) = putL n [102, 97, 108, 115, 101] s := by
    intro s
    simp only [putL]
    rw [hst (fu + 5) 0 102 _ (by decide) (ch_s3_0 n _)]
    congr 1; funext s
    rw [hst (fu + 4) 1 97 _ (by decide) (ch_s3_1 n _)]
    congr 1; funext s
    rw [hst (fu + 3) 2 108 _ (by decide) (ch_s3_2 n _)]
    congr 1; funext s
    rw [hst (fu + 2) 3 115 _ (by decide) (ch_s3_3 n _)]
    congr 1; funext s
    rw [hst (fu + 1) 4 101 _ (by decide) (ch_s3_4 n _)]
    congr 1; funext s
    exact hend fu s
  have := key s
  rw [nI_0] at this
  rw [← this, ← hfu]
theorem ch_s2_0 (n : Nat) (s : StT) : f_J0_charAt_5068e_s2 n s (nI 0) = some (nI 116, s) := by
  unfold f_J0_charAt_5068e_s2 f_J0_isLatin1_aae02_s2 f_J1_charAt_3b067_v2
  simp only [i10, if_false, if_true, bnd]
  rw [show (4 : Int32) = nI 4 from rfl, chk (by decide) (by decide), Option.bind_some, inB_nI (by decide) (by decide), if_pos rfl, show ((((strByt.getD 2 []).getD ((nI 0).toNatClampNeg) 0) &&& (255 : Int32)).toUInt32 % 65536).toInt32 = nI 116 by decide, if_pos (show isC (nI 116) = true by decide), Option.bind_some, if_pos (show isC (nI 116) = true by decide)]
theorem ch_s2_1 (n : Nat) (s : StT) : f_J0_charAt_5068e_s2 n s (nI 1) = some (nI 114, s) := by
  unfold f_J0_charAt_5068e_s2 f_J0_isLatin1_aae02_s2 f_J1_charAt_3b067_v2
  simp only [i10, if_false, if_true, bnd]
  rw [show (4 : Int32) = nI 4 from rfl, chk (by decide) (by decide), Option.bind_some, inB_nI (by decide) (by decide), if_pos rfl, show ((((strByt.getD 2 []).getD ((nI 1).toNatClampNeg) 0) &&& (255 : Int32)).toUInt32 % 65536).toInt32 = nI 114 by decide, if_pos (show isC (nI 114) = true by decide), Option.bind_some, if_pos (show isC (nI 114) = true by decide)]
theorem ch_s2_2 (n : Nat) (s : StT) : f_J0_charAt_5068e_s2 n s (nI 2) = some (nI 117, s) := by
  unfold f_J0_charAt_5068e_s2 f_J0_isLatin1_aae02_s2 f_J1_charAt_3b067_v2
  simp only [i10, if_false, if_true, bnd]
  rw [show (4 : Int32) = nI 4 from rfl, chk (by decide) (by decide), Option.bind_some, inB_nI (by decide) (by decide), if_pos rfl, show ((((strByt.getD 2 []).getD ((nI 2).toNatClampNeg) 0) &&& (255 : Int32)).toUInt32 % 65536).toInt32 = nI 117 by decide, if_pos (show isC (nI 117) = true by decide), Option.bind_some, if_pos (show isC (nI 117) = true by decide)]
theorem ch_s2_3 (n : Nat) (s : StT) : f_J0_charAt_5068e_s2 n s (nI 3) = some (nI 101, s) := by
  unfold f_J0_charAt_5068e_s2 f_J0_isLatin1_aae02_s2 f_J1_charAt_3b067_v2
  simp only [i10, if_false, if_true, bnd]
  rw [show (4 : Int32) = nI 4 from rfl, chk (by decide) (by decide), Option.bind_some, inB_nI (by decide) (by decide), if_pos rfl, show ((((strByt.getD 2 []).getD ((nI 3).toNatClampNeg) 0) &&& (255 : Int32)).toUInt32 % 65536).toInt32 = nI 101 by decide, if_pos (show isC (nI 101) = true by decide), Option.bind_some, if_pos (show isC (nI 101) = true by decide)]
theorem word_s2 {n : Nat} {s : StT} (hn : 100000 ≤ n) : f_X10_putWord_s2 n s = putL n [116, 114, 117, 101] s := by
  unfold f_X10_putWord_s2
  have hst : ∀ (fu i b : Nat) (s : StT), i < 4 → f_J0_charAt_5068e_s2 n s (nI i) = some (nI b, s) → f_X10_putWord_s2_2 n (fu + 1) s (nI i) = (f_X10_put n s (nI b)).bind fun q => f_X10_putWord_s2_2 n fu q (nI (i + 1)) := by
    intro fu i b s hi hc
    rw [f_X10_putWord_s2_2, len_s2, Option.bind_some, if_neg (fun e => absurd ((nI_leI (by omega) (by omega)).mp e) (by omega)), hc, Option.bind_some, nI_1]
  have hend : ∀ (fu : Nat) (s : StT), f_X10_putWord_s2_2 n (fu + 1) s (nI 4) = some s := by
    intro fu s
    rw [f_X10_putWord_s2_2, len_s2, Option.bind_some, if_pos (Int32.le_refl _)]
  obtain ⟨fu, hfu⟩ : ∃ q, n = q + 5 := ⟨n - 5, by omega⟩
  have key : ∀ s : StT, f_X10_putWord_s2_2 n (fu + 5) s (nI 0) = putL n [116, 114, 117, 101] s := by
    intro s
    simp only [putL]
    rw [hst (fu + 4) 0 116 _ (by decide) (ch_s2_0 n _)]
    congr 1; funext s
    rw [hst (fu + 3) 1 114 _ (by decide) (ch_s2_1 n _)]
    congr 1; funext s
    rw [hst (fu + 2) 2 117 _ (by decide) (ch_s2_2 n _)]
    congr 1; funext s
    rw [hst (fu + 1) 3 101 _ (by decide) (ch_s2_3 n _)]
    congr 1; funext s
    exact hend fu s
  have := key s
  rw [nI_0] at this
  rw [← this, ← hfu]
