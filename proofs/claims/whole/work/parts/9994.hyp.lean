/-! ===== the number of a hypothesis ===== -/
theorem nI_mul (a b : Nat) : nI a * nI b = nI (a * b) := (Int32.ofNat_mul a b).symm
theorem nI_sub48 (a : Nat) : nI (a + 48) - 48 = nI a := by
  rw [← nI_add a 48]
  exact Int32.add_sub_cancel _ _
theorem dg8_le {b : Nat} (h : dg8 b = true) : 48 ≤ b ∧ b ≤ 57 := by
  unfold dg8 at h; exact of_decide_eq_true h
theorem sb_nI {b : Nat} (h : b < 128) : sb b = nI b := (sb_low b (by omega) b h).mpr rfl
theorem hyp0 {n : Nat} {s : StT} {x w : Int32} {i : Int32} (fu : Nat) : f_X12_readHypothesis_57 n (fu + 1) s x 0 w i = f_X12_readHypothesis_113 n s x 0 w := by
  rw [f_X12_readHypothesis_57, if_pos (rfl : (0 : Int32) = 0), ite_self]
theorem hyp_loop {n : Nat} {sC sM : StT} {tn : Nat} {bt : Nat → Nat} (hC : TxC sC tn bt) (hM : TxM sM tn bt) {q K : Nat} {x : Int32} (h5 : sC.1 5 = nI (q + K)) (h6 : sM.1 6 = nI q) (h7 : sM.1 7 = nI K) (hK : q + K ≤ tn) (hK6 : K ≤ 6) (hb : ∀ i, i < K → bt (q + i) < 128) : ∀ (d i v fu : Nat), i + d = K → d + 1 < fu → v < 10 ^ i →
    (∃ v', v' < 10 ^ K ∧ f_X8_hypothesis_64 n fu sC (nI v) (nI (q + i)) = some (nI v', sC) ∧ f_X12_readHypothesis_57 n fu sM x 1 (nI v) (nI i) = f_X12_readHypothesis_113 n sM x 1 (nI v'))
    ∨ (f_X8_hypothesis_64 n fu sC (nI v) (nI (q + i)) = some (-1, sC) ∧ ∃ w, f_X12_readHypothesis_57 n fu sM x 1 (nI v) (nI i) = f_X12_readHypothesis_113 n sM x 0 w) := by
  have hl3 := hC.1
  intro d
  induction d with
  | zero =>
    intro i v fu hi hfu hv
    obtain ⟨fu, rfl⟩ : ∃ q, fu = q + 1 := ⟨fu - 1, by omega⟩
    left
    have e : i = K := by omega
    refine ⟨v, by rw [← e]; exact hv, ?_, ?_⟩
    · rw [f_X8_hypothesis_64, h5, if_pos ((nI_leI (by omega) (by omega)).mpr (by omega))]
    · rw [f_X12_readHypothesis_57, h7, if_pos ((nI_leI (by omega) (by omega)).mpr (by omega))]
  | succ d ih =>
    intro i v fu hi hfu hv
    obtain ⟨fu, rfl⟩ : ∃ q, fu = q + 1 := ⟨fu - 1, by omega⟩
    obtain ⟨fu, rfl⟩ : ∃ q, fu = q + 1 := ⟨fu - 1, by omega⟩
    have hbi := hb i (by omega)
    have htx := hM.2.2 (q + i) (by omega)
    have hv10 : 10 ^ i ≤ 10 ^ 6 := Nat.pow_le_pow_right (by decide) (by omega)
    have hds : nI (bt (q + i)) = sb (bt (q + i)) := (sb_nI hbi).symm
    have hdm := isDigitM (n := n) (s := sM) htx.2
    rw [f_X8_hypothesis_64, h5, if_neg (fun e => absurd ((nI_leI (by omega) (by omega)).mp e) (by omega)), byteAtC hC (by omega), Option.bind_some]
    simp only []
    rw [if_pos (show q + i < tn by omega), isDigitC htx.2, Option.bind_some]
    rw [f_X12_readHypothesis_57, h7, if_neg (fun e => absurd ((nI_leI (by omega) (by omega)).mp e) (by omega)), if_neg (show ¬ (1 : Int32) = 0 by decide), h6, nI_add, inB_nI (show q + i < 3000 by omega) (by omega), if_pos rfl, nI_cl (by omega), htx.1, hdm, Option.bind_some]
    simp only []
    rw [h6, nI_add, inB_nI (show q + i < 3000 by omega) (by omega), if_pos rfl, nI_cl (by omega), htx.1, sb_nI hbi, nI_1, nI_1, show q + i + 1 = q + (i + 1) by omega]
    by_cases c : dg8 (bt (q + i)) = true
    · have hd := dg8_le c
      rw [c, show mI true = (1 : Int32) from rfl, if_neg (by decide)]
      have e1 : nI v * (10 : Int32) + nI (bt (q + i)) - 48 = nI (v * 10 + (bt (q + i) - 48)) := by
        rw [show (10 : Int32) = nI 10 from rfl, nI_mul, nI_add, show v * 10 + bt (q + i) = v * 10 + (bt (q + i) - 48) + 48 by omega, nI_sub48]
      have e2 : (10 : Int32) * nI v + nI (bt (q + i)) - 48 = nI (v * 10 + (bt (q + i) - 48)) := by
        rw [show (10 : Int32) = nI 10 from rfl, nI_mul, Nat.mul_comm, nI_add, show v * 10 + bt (q + i) = v * 10 + (bt (q + i) - 48) + 48 by omega, nI_sub48]
      rw [e1, e2]
      exact ih (i + 1) _ (fu + 1) (by omega) (by omega) (by rw [Nat.pow_succ]; omega)
    · right
      have c' : dg8 (bt (q + i)) = false := by cases h : dg8 (bt (q + i)) with | true => exact absurd h c | false => rfl
      rw [c', show mI false = (0 : Int32) from rfl, if_pos rfl]
      exact ⟨rfl, _, hyp0 fu⟩
theorem hyp2 {n : Nat} (hn : 100000 ≤ n) {X : TX} {D : HD} {p o nn : Nat} {sC sM : StT} (hB : RB X D o sC sM) (hp : p ≤ X.2.1) (hT : Tk1 X.2.1 X.2.2 (skX X p) (tkX X (skX X p)) sC sM) (hk : (tkX X (skX X p)).1 = 110) (hnn : nn < 1000) :
    (∃ v, v < nn ∧ f_X8_hypothesis n sC = some (nI v, sC) ∧ f_X12_readHypothesis n sM (nI nn) = some (nI v, sM))
    ∨ ∃ sC' sM', f_X3_readHypothesis n sC (nI nn) = some (-1, sC') ∧ f_X12_readHypothesis n sM (nI nn) = some (-1, sM') ∧ RX D sC' sM' ∧ FRC sC sC' ∧ ∀ d, FRM d sM sM' := by
  have hbt : ∀ i, i < X.2.1 → X.2.2 i < 256 := fun i hi => (hB.2.1.1.2.2 i hi).2
  obtain ⟨hq, hlt, hn6, hsz⟩ := tk_name hbt hk
  have hbd := nx_bd (tn := X.2.1) (bt := X.2.2) (X.2.1 - skX X p) (skX X p) (by omega)
  have hkb := sk_bd (tn := X.2.1) (bt := X.2.2) (X.2.1 - p) p (by omega)
  have hs := tk_size (tm := X.1) (bt := X.2.2) hkb.2.1
  have hK1 : 1 ≤ (tkX X (skX X p)).2.2 := hs.2.1 hT.2.2.1 (show (tkX X (skX X p)).1 ≠ 0 by rw [hk]; decide)
  have hK6 : (tkX X (skX X p)).2.2 ≤ 6 := hs.2.2
  have hKn : skX X p + (tkX X (skX X p)).2.2 ≤ X.2.1 := hs.1
  have hlc : ∀ i, i < (tkX X (skX X p)).2.2 → X.2.2 (skX X p + i) < 128 := fun i hi => by
    rw [hsz] at hi
    exact (nc_bd (hbd.2.2 _ (by omega) (by omega))).2
  have h4 := hT.2.2.2.2.2.1
  have h5 := hT.2.2.2.2.2.2.1
  have h6 := hT.2.2.2.2.2.2.2.2.1
  have h7 := hT.2.2.2.2.2.2.2.2.2.1
  have hTC := hB.2.1.1
  have hTM := hB.2.1.2.1
  generalize hqd : skX X p = q at *
  generalize hkd : tkX X q = k at *
  have hXn := hTM.1
  have hc0 := hB.2.2.2.2.2.1
  have hm0 := hB.2.2.2.2.2.2
  obtain ⟨n', hn'⟩ : ∃ q, n = q + 1 := ⟨n - 1, by omega⟩
  have h0M : ∀ w i : Int32, f_X12_readHypothesis_57 n n sM (nI nn) 0 w i = some (-1, uF (uF sM 10 2) 11 (nI q)) := by
    intro w i
    have : f_X12_readHypothesis_57 n (n' + 1) sM (nI nn) 0 w i = some (-1, uF (uF sM 10 2) 11 (nI q)) := by
      rw [hyp0]
      unfold f_X12_readHypothesis_113 f_X12_readHypothesis_122 f_X12_fail
      rw [if_pos (rfl : (0 : Int32) = 0), if_pos (rfl : (0 : Int32) = 0), if_pos hm0, Option.bind_some, h6]
    rw [← hn'] at this; exact this
  have hbad : f_X8_hypothesis n sC = some (-1, sC) → f_X12_readHypothesis n sM (nI nn) = some (-1, uF (uF sM 10 2) 11 (nI q)) → ∃ sC' sM', f_X3_readHypothesis n sC (nI nn) = some (-1, sC') ∧ f_X12_readHypothesis n sM (nI nn) = some (-1, sM') ∧ RX D sC' sM' ∧ FRC sC sC' ∧ ∀ d, FRM d sM sM' := by
    intro e1 e2
    refine ⟨uF (uF sC 10 2) 11 (nI q), _, ?_, e2, HS.fault hB.1 (c := 2) (by decide) (by decide) rfl, FRC.fl _ _ _, fun d => FRM.fl _ _ _ _⟩
    unfold f_X3_readHypothesis f_X8_start f_X3_fail
    rw [e1, Option.bind_some]
    simp only []
    rw [if_neg (by decide), Option.bind_some]
    simp only []
    rw [if_pos hc0, Option.bind_some, h4]
  have hdig : sC.1 5 - sC.1 4 - 1 = nI (k.2.2 - 1) := by
    rw [h4, h5, show q + k.2.2 = (k.2.2 - 1) + 1 + q by omega, ← nI_add, show nI (k.2.2 - 1 + 1) + nI q - nI q = nI (k.2.2 - 1 + 1) from Int32.add_sub_cancel _ _, nI_m1]
  have eC0 : f_X8_hypothesis n sC = (if nI (X.2.2 q) = (104 : Int32) then (if nI (k.2.2 - 1) < (1 : Int32) then (some ((-1 : Int32), sC)) else (if (if q + 1 < X.2.1 then nI (X.2.2 (q + 1)) else -1) = (48 : Int32) then (if nI (k.2.2 - 1) ≤ (1 : Int32) then (f_X8_hypothesis_54 n sC) else (some ((-1 : Int32), sC))) else (f_X8_hypothesis_54 n sC))) else (some ((-1 : Int32), sC))) := by
    unfold f_X8_hypothesis
    rw [hdig, h4, nI_1, byteAtC hTC (by omega), Option.bind_some]
    simp only []
    rw [h4, byteAtC hTC (by omega), Option.bind_some]
    simp only []
    rw [if_pos hq]
  have hb0 : X.2.2 q < 128 := by have := hlc 0 (by omega); simpa using this
  have htx := hTM.2.2 q hq
  have eh : nI (X.2.2 q) = (104 : Int32) ↔ X.2.2 q = 104 := ⟨fun e => nI_inj (b := 104) (by omega) (by omega) e, fun e => by rw [e]; rfl⟩
  have run : f_X8_hypothesis n sC = f_X8_hypothesis_54 n sC → f_X12_readHypothesis n sM (nI nn) = f_X12_readHypothesis_46 n sM (nI nn) → (∃ v, v < nn ∧ f_X8_hypothesis n sC = some (nI v, sC) ∧ f_X12_readHypothesis n sM (nI nn) = some (nI v, sM)) ∨ ∃ sC' sM', f_X3_readHypothesis n sC (nI nn) = some (-1, sC') ∧ f_X12_readHypothesis n sM (nI nn) = some (-1, sM') ∧ RX D sC' sM' ∧ FRC sC sC' ∧ ∀ d, FRM d sM sM' := by
    intro a1 a2
    have hpw : 10 ^ k.2.2 ≤ 10 ^ 6 := Nat.pow_le_pow_right (by decide) hK6
    have b1 : f_X8_hypothesis_54 n sC = f_X8_hypothesis_64 n n sC (nI 0) (nI (q + 1)) := by unfold f_X8_hypothesis_54; rw [h4, nI_1]; rfl
    have b2 : f_X12_readHypothesis_46 n sM (nI nn) = f_X12_readHypothesis_57 n n sM (nI nn) 1 (nI 0) (nI 1) := rfl
    rcases hyp_loop (n := n) (x := nI nn) hTC hTM h5 h6 h7 hKn hK6 hlc (k.2.2 - 1) 1 0 n (by omega) (by omega) (by decide) with ⟨v, hv, f1, f2⟩ | ⟨f1, w, f2⟩
    · by_cases c : v < nn
      · left
        refine ⟨v, c, by rw [a1, b1, f1], ?_⟩
        rw [a2, b2, f2]
        unfold f_X12_readHypothesis_113
        rw [if_neg (by decide), if_pos ((nI_ltI (by omega) (by omega)).mpr c)]
      · right
        refine ⟨uF (uF sC 10 6) 11 (nI q), uF (uF sM 10 6) 11 (nI q), ?_, ?_, HS.fault hB.1 (c := 6) (by decide) (by decide) rfl, FRC.fl _ _ _, fun d => FRM.fl _ _ _ _⟩
        · unfold f_X3_readHypothesis f_X8_start f_X3_fail
          rw [a1, b1, f1, Option.bind_some]
          simp only []
          rw [if_pos (nI_nn (by omega)), if_neg (fun e => c ((nI_ltI (by omega) (by omega)).mp e)), Option.bind_some]
          simp only []
          rw [if_pos hc0, Option.bind_some, h4]
        · rw [a2, b2, f2]
          unfold f_X12_readHypothesis_113 f_X12_readHypothesis_122 f_X12_fail
          rw [if_neg (by decide), if_neg (fun e => c ((nI_ltI (by omega) (by omega)).mp e)), if_neg (by decide), if_pos hm0, Option.bind_some, h6]
    · right
      refine hbad (by rw [a1, b1, f1]) ?_
      rw [a2, b2, f2]
      unfold f_X12_readHypothesis_113 f_X12_readHypothesis_122 f_X12_fail
      rw [if_pos (rfl : (0 : Int32) = 0), if_pos (rfl : (0 : Int32) = 0), if_pos hm0, Option.bind_some, h6]
  by_cases cK : k.2.2 ≤ 1
  · right
    refine hbad ?_ ?_
    · rw [eC0]
      by_cases c : nI (X.2.2 q) = (104 : Int32)
      · rw [if_pos c, if_pos (show nI (k.2.2 - 1) < (1 : Int32) from (nI_ltI (b := 1) (by omega) (by omega)).mpr (by omega))]
      · rw [if_neg c]
    · unfold f_X12_readHypothesis
      rw [h7, if_pos (show nI k.2.2 ≤ (1 : Int32) from (nI_leI (b := 1) (by omega) (by omega)).mpr cK)]
      exact h0M _ _
  · have hb1 := hlc 1 (by omega)
    have htx1 := hTM.2.2 (q + 1) (by omega)
    have eM0 : f_X12_readHypothesis n sM (nI nn) = (if nI (X.2.2 q) = (104 : Int32) then (if nI (X.2.2 (q + 1)) = (48 : Int32) then (if nI k.2.2 = (2 : Int32) then (f_X12_readHypothesis_46 n sM (nI nn)) else (f_X12_readHypothesis_57 n n sM (nI nn) (0 : Int32) (0 : Int32) (1 : Int32))) else (f_X12_readHypothesis_46 n sM (nI nn))) else (f_X12_readHypothesis_57 n n sM (nI nn) (0 : Int32) (0 : Int32) (1 : Int32))) := by
      unfold f_X12_readHypothesis
      rw [h7, if_neg (show ¬ nI k.2.2 ≤ (1 : Int32) from fun e => absurd ((nI_leI (b := 1) (by omega) (by omega)).mp e) (by omega)), h6, inB_nI (show q < 3000 by omega) (by omega), if_pos rfl, nI_cl (by omega), htx.1, sb_nI hb0, nI_1, inB_nI (show q + 1 < 3000 by omega) (by omega), if_pos rfl, nI_cl (by omega), htx1.1, sb_nI hb1]
    rw [if_pos (show q + 1 < X.2.1 by omega)] at eC0
    by_cases c : nI (X.2.2 q) = (104 : Int32)
    · rw [if_pos c, if_neg (show ¬ nI (k.2.2 - 1) < (1 : Int32) from fun e => absurd ((nI_ltI (b := 1) (by omega) (by omega)).mp e) (by omega))] at eC0
      rw [if_pos c] at eM0
      by_cases c0 : nI (X.2.2 (q + 1)) = (48 : Int32)
      · rw [if_pos c0] at eC0 eM0
        by_cases c2 : k.2.2 = 2
        · rw [if_pos (show nI (k.2.2 - 1) ≤ (1 : Int32) from (nI_leI (b := 1) (by omega) (by omega)).mpr (by omega))] at eC0
          rw [if_pos (by rw [c2]; rfl)] at eM0
          exact run eC0 eM0
        · rw [if_neg (show ¬ nI (k.2.2 - 1) ≤ (1 : Int32) from fun e => absurd ((nI_leI (b := 1) (by omega) (by omega)).mp e) (by omega))] at eC0
          rw [if_neg (show ¬ nI k.2.2 = (2 : Int32) from fun e => c2 (nI_inj (b := 2) (by omega) (by omega) e))] at eM0
          exact Or.inr (hbad eC0 (by rw [eM0]; exact h0M _ _))
      · rw [if_neg c0] at eC0 eM0
        exact run eC0 eM0
    · rw [if_neg c] at eC0 eM0
      exact Or.inr (hbad eC0 (by rw [eM0]; exact h0M _ _))
