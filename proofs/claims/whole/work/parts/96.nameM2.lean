/-- the end of a name, in the reference -/
theorem nameEndM {n : Nat} {s : StT} {tn : Nat} {bt : Nat → Nat} (hT : TxM s tn bt) {q K : Nat} (h6 : s.1 6 = nI q) (h7 : s.1 7 = nI K) (hK : q + K ≤ tn) : (if (s.1 7) ≤ (6 : Int32) then ((f_X12_isWord n s (116 : Int32) (114 : Int32) (117 : Int32) (101 : Int32) (0 : Int32)).bind fun q217 => (if q217.1 = 0 then ((f_X12_isWord n q217.2 (102 : Int32) (97 : Int32) (108 : Int32) (115 : Int32) (101 : Int32)).bind fun q240 => (if q240.1 = 0 then (some (uF q240.2 5 (257 : Int32))) else (some (uF q240.2 5 (259 : Int32))))) else (some (uF q217.2 5 (258 : Int32))))) else (some (uF s 5 (262 : Int32)))) = some (uF s 5 (if K ≤ 6 then wdM (wd (bts bt q K)) else 262)) := by
  have h1 := hT.1
  rw [h7]
  by_cases c : K ≤ 6
  · rw [if_pos (show nI K ≤ (6 : Int32) from (nI_leI (b := 6) (by omega) (by omega)).mpr c), if_pos c, isTrueM hT h6 h7 hK, Option.bind_some]
    unfold wd
    by_cases c1 : bts bt q K = [116, 114, 117, 101]
    · rw [if_pos c1]
      simp only [c1, decide_true]
      rfl
    · rw [if_neg c1]
      simp only [c1, decide_false]
      show (if mI false = 0 then ((f_X12_isWord n s (102 : Int32) (97 : Int32) (108 : Int32) (115 : Int32) (101 : Int32)).bind fun q240 => (if q240.1 = 0 then (some (uF q240.2 5 (257 : Int32))) else (some (uF q240.2 5 (259 : Int32))))) else some (uF s 5 258)) = _
      rw [if_pos (show mI false = 0 from rfl), isFalseM hT h6 h7 hK, Option.bind_some]
      by_cases c2 : bts bt q K = [102, 97, 108, 115, 101]
      · rw [if_pos c2]
        simp only [c2, decide_true]
        rfl
      · rw [if_neg c2]
        simp only [c2, decide_false]
        rfl
  · rw [if_neg (show ¬ nI K ≤ (6 : Int32) from fun e => c ((nI_leI (b := 6) (by omega) (by omega)).mp e)), if_neg c]
theorem scanNameM {n : Nat} {s0 : StT} {tn : Nat} {bt : Nat → Nat} (hT0 : TxM s0 tn bt) {q : Nat} (h4 : s0.1 4 = nI q) (h6 : s0.1 6 = nI q) : ∀ (d k fu : Nat) (s : StT), q + k + d = tn → d < fu → (∀ j, j ≠ 7 → s.1 j = s0.1 j) → s.2 = s0.2 → s.1 7 = nI k → ∃ s', f_X12_scan_140 n fu s = some s' ∧ s'.1 7 = nI (nx tn bt (q + k) - q) ∧ s'.1 5 = (if nx tn bt (q + k) - q ≤ 6 then wdM (wd (bts bt q (nx tn bt (q + k) - q))) else 262) ∧ (∀ j, j ≠ 5 → j ≠ 7 → s'.1 j = s0.1 j) ∧ s'.2 = s0.2 := by
  have h1 := hT0.1
  have fin : ∀ (s : StT) (k : Nat), (∀ j, j ≠ 7 → s.1 j = s0.1 j) → s.2 = s0.2 → s.1 7 = nI k → q + k ≤ tn → ∃ s', some (uF s 5 (if k ≤ 6 then wdM (wd (bts bt q k)) else 262)) = some s' ∧ s'.1 7 = nI (q + k - q) ∧ s'.1 5 = (if q + k - q ≤ 6 then wdM (wd (bts bt q (q + k - q))) else 262) ∧ (∀ j, j ≠ 5 → j ≠ 7 → s'.1 j = s0.1 j) ∧ s'.2 = s0.2 := by
    intro s k a1 a2 a3 a4
    rw [show q + k - q = k by omega]
    exact ⟨_, rfl, a3, rfl, fun j hj1 hj2 => by simp only [uF_1, hj1, if_false]; exact a1 j hj2, a2⟩
  intro d
  induction d with
  | zero =>
    intro k fu s hk hfu a1 a2 a3
    obtain ⟨fu, rfl⟩ : ∃ q, fu = q + 1 := ⟨fu - 1, by omega⟩
    have hT : TxM s tn bt := ⟨hT0.1, by rw [a1 3 (by decide)]; exact hT0.2.1, by rw [a2]; exact hT0.2.2⟩
    have b4 : s.1 4 = nI q := by rw [a1 4 (by decide)]; exact h4
    have b6 : s.1 6 = nI q := by rw [a1 6 (by decide)]; exact h6
    have hs := signAtM (n := n) hT (i := q + k) (by omega)
    rw [if_neg (by omega)] at hs
    have small : f_X12_isSmall n s (-1) = some (0, s) := by unfold f_X12_isSmall; rw [if_pos (by decide)]
    have digit : f_X12_isDigit n s (-1) = some (0, s) := by unfold f_X12_isDigit; rw [if_pos (by decide)]
    rw [f_X12_scan_140]
    simp only [b4, a3, nI_add]
    rw [hs, Option.bind_some]
    simp only []
    rw [small, Option.bind_some]
    simp only [if_true, b4, a3, nI_add]
    rw [hs, Option.bind_some]
    simp only []
    rw [digit, Option.bind_some]
    simp only [if_true]
    have e := nameEndM (n := n) hT b6 a3 (by omega)
    rw [a3] at e
    rw [a3, e, nx_e, if_neg (show ¬ (q + k < tn ∧ nc8 (bt (q + k)) = true) from fun e => by omega)]
    exact fin s k a1 a2 a3 (by omega)
  | succ d ih =>
    intro k fu s hk hfu a1 a2 a3
    obtain ⟨fu, rfl⟩ : ∃ q, fu = q + 1 := ⟨fu - 1, by omega⟩
    have hT : TxM s tn bt := ⟨hT0.1, by rw [a1 3 (by decide)]; exact hT0.2.1, by rw [a2]; exact hT0.2.2⟩
    have b4 : s.1 4 = nI q := by rw [a1 4 (by decide)]; exact h4
    have b6 : s.1 6 = nI q := by rw [a1 6 (by decide)]; exact h6
    have hb := (hT.2.2 (q + k) (by omega)).2
    have hs := signAtM (n := n) hT (i := q + k) (by omega)
    rw [if_pos (by omega)] at hs
    have go : f_X12_scan_178 n (f_X12_scan_140 n fu) s = f_X12_scan_140 n fu (uF s 7 (nI (k + 1))) := by
      unfold f_X12_scan_178
      rw [a3, nI_1]
    have next := ih (k + 1) fu (uF s 7 (nI (k + 1))) (by omega) (by omega) (fun j hj => by simp only [uF_1, hj, if_false]; exact a1 j hj) a2 rfl
    rw [f_X12_scan_140, nx_e]
    simp only [b4, a3, nI_add]
    rw [hs, Option.bind_some]
    simp only []
    rw [isSmallM hb, Option.bind_some]
    simp only []
    by_cases c1 : lt8 (bt (q + k)) = true
    · rw [if_neg (show ¬ mI (lt8 (bt (q + k))) = 0 by rw [c1]; decide), go, if_pos (show q + k < tn ∧ nc8 (bt (q + k)) = true from ⟨by omega, by unfold nc8; rw [c1]; rfl⟩)]
      exact next
    · have c1' : lt8 (bt (q + k)) = false := by simpa using c1
      rw [if_pos (show mI (lt8 (bt (q + k))) = 0 by rw [c1']; rfl)]
      simp only [b4, a3, nI_add]
      rw [hs, Option.bind_some]
      simp only []
      rw [isDigitM hb, Option.bind_some]
      simp only []
      by_cases c2 : dg8 (bt (q + k)) = true
      · rw [if_neg (show ¬ mI (dg8 (bt (q + k))) = 0 by rw [c2]; decide), go, if_pos (show q + k < tn ∧ nc8 (bt (q + k)) = true from ⟨by omega, by unfold nc8; rw [c1', c2]; rfl⟩)]
        exact next
      · have c2' : dg8 (bt (q + k)) = false := by simpa using c2
        have hno : ¬ (q + k < tn ∧ nc8 (bt (q + k)) = true) := fun e => by
          have := e.2
          unfold nc8 at this
          rw [c1', c2'] at this
          exact absurd this (by decide)
        have e := nameEndM (n := n) hT b6 a3 (by omega)
        rw [a3] at e
        rw [if_pos (show mI (dg8 (bt (q + k))) = 0 by rw [c2']; rfl), a3, e, if_neg hno]
        exact fin s k a1 a2 a3 (by omega)
