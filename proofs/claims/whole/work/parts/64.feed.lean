/-! ===== feed ===== -/
theorem bv8 (x : BitVec 64) (s : Nat) (hs : s ≤ 56) : ((x >>> s).setWidth 32).setWidth 8 = ((x.sshiftRight s).setWidth 32).setWidth 8 := by
  apply BitVec.eq_of_getLsbD_eq
  intro i hi
  simp only [BitVec.getLsbD_setWidth, BitVec.getLsbD_ushiftRight, BitVec.getLsbD_sshiftRight]
  have h1 : ¬ 64 ≤ i := by omega
  have h2 : s + i < 64 := by omega
  simp [h1, h2, hi]
theorem byteEq (x : Int64) {a : UInt64} {b : Int64} {s : Nat} (hs : s ≤ 56) (ha : (a.toBitVec % 64).toNat = s) (hb : (b.toBitVec.smod 64).toNat = s) : (x.toUInt64 >>> a).toInt64.toInt32.toInt8.toInt32 = (x >>> b).toInt32.toInt8.toInt32 := by
  congr 1
  apply Int8.toBitVec_inj.mp
  show BitVec.signExtend 8 (BitVec.signExtend 32 (x.toBitVec >>> (a.toBitVec % 64))) = BitVec.signExtend 8 (BitVec.signExtend 32 (x.toBitVec.sshiftRight' (b.toBitVec.smod 64)))
  rw [BitVec.signExtend_eq_setWidth_of_le _ (by decide), BitVec.signExtend_eq_setWidth_of_le _ (by decide), BitVec.signExtend_eq_setWidth_of_le _ (by decide), BitVec.signExtend_eq_setWidth_of_le _ (by decide)]
  rw [BitVec.ushiftRight_eq', BitVec.sshiftRight_eq', ha, hb]
  exact bv8 x.toBitVec s hs
theorem byteK (x : Int64) : ∀ k, k < 8 → (x.toUInt64 >>> (((8 : Int32) * nI k).toInt64.toUInt64 &&& Int64.toUInt64 63)).toInt64.toInt32.toInt8.toInt32 = (x >>> (((8 : Int32) * nI k).toInt64 &&& 63)).toInt32.toInt8.toInt32 := by
  intro k hk
  rcases (show k = 0 ∨ k = 1 ∨ k = 2 ∨ k = 3 ∨ k = 4 ∨ k = 5 ∨ k = 6 ∨ k = 7 by omega) with rfl | rfl | rfl | rfl | rfl | rfl | rfl | rfl
  · exact byteEq x (s := 0) (by decide) (by decide) (by decide)
  · exact byteEq x (s := 8) (by decide) (by decide) (by decide)
  · exact byteEq x (s := 16) (by decide) (by decide) (by decide)
  · exact byteEq x (s := 24) (by decide) (by decide) (by decide)
  · exact byteEq x (s := 32) (by decide) (by decide) (by decide)
  · exact byteEq x (s := 40) (by decide) (by decide) (by decide)
  · exact byteEq x (s := 48) (by decide) (by decide) (by decide)
  · exact byteEq x (s := 56) (by decide) (by decide) (by decide)
/-- states that agree but for the text -/
def FrTC (s s' : StT) : Prop := (∀ j, j ≠ 0 → s'.1 j = s.1 j) ∧ (∀ j, j ≠ 1 → s'.2.1 j = s.2.1 j) ∧ s'.2.2 = s.2.2
def FrTM (s s' : StT) : Prop := (∀ j, j ≠ 3 → s'.1 j = s.1 j) ∧ (∀ j, j ≠ 6 → s'.2.1 j = s.2.1 j) ∧ s'.2.2 = s.2.2
theorem nar8 (y : Int32) : y.toInt8.toInt32.toInt8.toInt32 = y.toInt8.toInt32 := by
  have h := pk_vb y
  rw [vp_nar_byte] at h
  exact h
theorem feed_loop {n : Nat} (x : Int64) : ∀ (m fu tn : Nat) (tx : Nat → Int32) (sC sM : StT), m ≤ 8 → m < fu → tn + m ≤ 3000 → RelT sC sM tn tx → ∃ (sC' sM' : StT) (tx' : Nat → Int32), f_X8_append_24 n fu sC x (nI m - 1) = some (nI (tn + m), sC') ∧ f_X12_feed_42 n fu sM x (nI m - 1) = some (nI (tn + m), sM') ∧ RelT sC' sM' (tn + m) tx' ∧ FrTC sC sC' ∧ FrTM sM sM' := by
  intro m
  induction m with
  | zero =>
    intro fu tn tx sC sM _ hfu h3 hR
    obtain ⟨fu, rfl⟩ : ∃ q, fu = q + 1 := ⟨fu - 1, by omega⟩
    rw [f_X8_append_24, f_X12_feed_42, nI_neg1, if_pos m1_neg, if_pos m1_neg, hR.2.1, hR.2.2.1]
    exact ⟨sC, sM, tx, rfl, rfl, hR, ⟨fun _ _ => rfl, fun _ _ => rfl, rfl⟩, ⟨fun _ _ => rfl, fun _ _ => rfl, rfl⟩⟩
  | succ m ih =>
    intro fu tn tx sC sM hm hfu h3 hR
    obtain ⟨fu, rfl⟩ : ∃ q, fu = q + 1 := ⟨fu - 1, by omega⟩
    obtain ⟨r1, r2, r3, r4⟩ := id hR
    rw [f_X8_append_24, f_X12_feed_42, nI_m1, if_neg (nI_nneg (by omega)), if_neg (nI_nneg (by omega)), r2, r3, if_neg (nI_nneg (by omega)), if_neg (show ¬ (3000 : Int32) ≤ nI tn from fun e => absurd ((nI_leI (a := 3000) (by omega) (by omega)).mp e) (by omega)), inB_nI (show tn < 3000 by omega) (by omega)]
    simp only [if_true, uA_1, r2, r3, nI_1]
    rw [pk_vb, byteK x m (by omega)]
    have e1 : nI m + -1 = nI m - 1 := by
      rw [Int32.sub_eq_add_neg]
    rw [e1]
    generalize hv : (x >>> (((8 : Int32) * nI m).toInt64 &&& 63)).toInt32.toInt8.toInt32 = v
    have hvn : v.toInt8.toInt32 = v := by rw [← hv]; exact nar8 _
    obtain ⟨sC', sM', tx', a1, a2, a3, a4, a5⟩ := ih fu (tn + 1) (fun i => if i = tn then v else tx i) (uF (uA sC 1 (nI tn) v) 0 (nI (tn + 1))) (uF (uA sM 6 (nI tn) v) 3 (nI (tn + 1))) (by omega) (by omega) (by omega) ⟨by omega, rfl, rfl, fun i hi => by
      simp only [uF_2, uA_21, upd_j, nI_cl (show tn < 2 ^ 31 by omega), if_true]
      by_cases q : i = tn
      · simp only [q, if_true]; exact ⟨trivial, trivial, hvn⟩
      · simp only [q, if_false]; exact r4 i (by omega)⟩
    refine ⟨sC', sM', tx', ?_, ?_, ?_, ?_, ?_⟩
    · rw [a1, show tn + 1 + m = tn + (m + 1) by omega]
    · rw [a2, show tn + 1 + m = tn + (m + 1) by omega]
    · rw [show tn + (m + 1) = tn + 1 + m by omega]; exact a3
    · refine ⟨fun j hj => (a4.1 j hj).trans ?_, fun j hj => (a4.2.1 j hj).trans ?_, a4.2.2⟩
      · simp only [uF_1, uA_1, hj, if_false]
      · simp only [uF_2, uA_21, hj, if_false]
    · refine ⟨fun j hj => (a5.1 j hj).trans ?_, fun j hj => (a5.2.1 j hj).trans ?_, a5.2.2⟩
      · simp only [uF_1, uA_1, hj, if_false]
      · simp only [uF_2, uA_21, hj, if_false]
theorem op_feed {n : Nat} (hn : 100000 ≤ n) {sC sM : StT} {tn : Nat} {tx : Nat → Int32} (hR : RelT sC sM tn tx) (x : Int64) (y : Int32) : ∃ (r : Int32) (sC' sM' : StT) (tn' : Nat) (tx' : Nat → Int32), f_X11_feed n sC x y = some (r, sC') ∧ f_X12_feed n sM x y = some (r, sM') ∧ RelT sC' sM' tn' tx' ∧ FrTC sC sC' ∧ FrTM sM sM' := by
  have rfC : FrTC sC sC := ⟨fun _ _ => rfl, fun _ _ => rfl, rfl⟩
  have rfM : FrTM sM sM := ⟨fun _ _ => rfl, fun _ _ => rfl, rfl⟩
  obtain ⟨r1, r2, r3, r4⟩ := id hR
  unfold f_X11_feed f_X12_feed
  by_cases c0 : y < 0
  · rw [if_pos c0, if_pos c0]
    exact ⟨_, _, _, tn, tx, rfl, rfl, hR, rfC, rfM⟩
  rw [if_neg c0, if_neg c0]
  by_cases c8 : y ≤ 8
  · rw [if_pos c8, if_pos c8]
    obtain ⟨m, hm, rfl⟩ := nI_of c0
    have hm8 : m ≤ 8 := (nI_leI (b := 8) hm (by omega)).mp c8
    by_cases cz : m = 0
    · subst cz
      rw [if_pos nI_0, if_pos nI_0]
      unfold f_X8_drop f_X12_feed_22
      simp only [bnd]
      have hz : (0 : Int32) = nI 0 := nI_0.symm
      rw [if_pos (by simp only [uF_1, if_true]; rw [hz, nI_add]; exact (nI_leI (b := 3000) (by omega) (by omega)).mpr (by omega))]
      obtain ⟨nn, rfl⟩ : ∃ q, n = q + 1 := ⟨n - 1, by omega⟩
      rw [f_X12_feed_42, nI_neg1, if_pos m1_neg]
      exact ⟨0, _, _, 0, tx, rfl, rfl, ⟨by omega, rfl, rfl, fun i hi => by omega⟩, ⟨fun j hj => by simp only [uF_1, hj, if_false], fun _ _ => rfl, rfl⟩, ⟨fun j hj => by simp only [uF_1, hj, if_false], fun _ _ => rfl, rfl⟩⟩
    · rw [if_neg (fun e => cz (nI_inj (b := 0) hm (by omega) (e.trans nI_0.symm))), if_neg (fun e => cz (nI_inj (b := 0) hm (by omega) (e.trans nI_0.symm)))]
      unfold f_X8_append f_X12_feed_22
      rw [if_neg c0, r2, r3]
      have hsub : (3000 : Int32) - nI tn = nI (3000 - tn) := pk_sub (a := 3000) (by omega)
      rw [hsub, nI_add]
      by_cases c : tn + m ≤ 3000
      · rw [if_pos ((nI_leI hm (by omega)).mpr (by omega)), if_pos (show nI (tn + m) ≤ (3000 : Int32) from (nI_leI (b := 3000) (by omega) (by omega)).mpr c)]
        obtain ⟨sC', sM', tx', a1, a2, a3, a4, a5⟩ := feed_loop (n := n) x m n tn tx sC sM hm8 (by omega) c hR
        rw [a1, a2]
        exact ⟨_, _, _, _, tx', rfl, rfl, a3, a4, a5⟩
      · rw [if_neg (fun e => absurd ((nI_leI hm (by omega)).mp e) (by omega)), if_neg (show ¬ nI (tn + m) ≤ (3000 : Int32) from fun e => absurd ((nI_leI (b := 3000) (by omega) (by omega)).mp e) (by omega))]
        exact ⟨_, _, _, tn, tx, rfl, rfl, hR, rfC, rfM⟩
  · rw [if_neg c8, if_neg c8]
    exact ⟨_, _, _, tn, tx, rfl, rfl, hR, rfC, rfM⟩
