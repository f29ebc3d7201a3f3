/-! ===== which word a name is, in the reference ===== -/
theorem bts4 (bt : Nat → Nat) (q : Nat) : bts bt q 4 = [bt q, bt (q + 1), bt (q + 2), bt (q + 3)] := rfl
theorem bts5 (bt : Nat → Nat) (q : Nat) : bts bt q 5 = [bt q, bt (q + 1), bt (q + 2), bt (q + 3), bt (q + 4)] := rfl
theorem isTrueM {n : Nat} {s : StT} {tn : Nat} {bt : Nat → Nat} (hT : TxM s tn bt) {q K : Nat} (h6 : s.1 6 = nI q) (h7 : s.1 7 = nI K) (hK : q + K ≤ tn) : f_X12_isWord n s 116 114 117 101 0 = some (mI (decide (bts bt q K = [116, 114, 117, 101])), s) := by
  have h1 := hT.1
  unfold f_X12_isWord f_X12_isWord_10 f_X12_isWord_26
  rw [if_pos (by decide), if_pos rfl, h7, h6]
  by_cases c : K = 4
  · subst c
    rw [if_pos (show nI 4 = (4 : Int32) from rfl), bts4]
    have g : ∀ i, i < 4 → s.2.1 6 (q + i) = sb (bt (q + i)) ∧ bt (q + i) < 256 := fun i hi => hT.2.2 (q + i) (by omega)
    have g0 := g 0 (by omega)
    rw [Nat.add_zero] at g0
    have a1 : nI q + (1 : Int32) = nI (q + 1) := nI_add q 1
    have a2 : nI q + (2 : Int32) = nI (q + 2) := nI_add q 2
    have a3 : nI q + (3 : Int32) = nI (q + 3) := nI_add q 3
    rw [a1, a2, a3]
    simp only [inB_nI (show q < 3000 by omega) (show 3000 < 2 ^ 31 by omega), inB_nI (show q + 1 < 3000 by omega) (show 3000 < 2 ^ 31 by omega), inB_nI (show q + 2 < 3000 by omega) (show 3000 < 2 ^ 31 by omega), inB_nI (show q + 3 < 3000 by omega) (show 3000 < 2 ^ 31 by omega), if_true, nI_cl (show q < 2 ^ 31 by omega), nI_cl (show q + 1 < 2 ^ 31 by omega), nI_cl (show q + 2 < 2 ^ 31 by omega), nI_cl (show q + 3 < 2 ^ 31 by omega), g0.1, (g 1 (by omega)).1, (g 2 (by omega)).1, (g 3 (by omega)).1]
    have k0 : sb (bt q) = (116 : Int32) ↔ bt q = 116 := sb_low _ g0.2 116 (by omega)
    have k1 : sb (bt (q + 1)) = (114 : Int32) ↔ bt (q + 1) = 114 := sb_low _ (g 1 (by omega)).2 114 (by omega)
    have k2 : sb (bt (q + 2)) = (117 : Int32) ↔ bt (q + 2) = 117 := sb_low _ (g 2 (by omega)).2 117 (by omega)
    have k3 : sb (bt (q + 3)) = (101 : Int32) ↔ bt (q + 3) = 101 := sb_low _ (g 3 (by omega)).2 101 (by omega)
    by_cases c0 : bt q = 116
    · rw [if_pos (k0.mpr c0)]
      by_cases c1 : bt (q + 1) = 114
      · rw [if_pos (k1.mpr c1)]
        by_cases c2 : bt (q + 2) = 117
        · rw [if_pos (k2.mpr c2)]
          by_cases c3 : bt (q + 3) = 101
          · rw [if_pos (k3.mpr c3)]; simp [c0, c1, c2, c3, mI]
          · rw [if_neg (fun e => c3 (k3.mp e))]; simp [c3, mI]
        · rw [if_neg (fun e => c2 (k2.mp e))]; simp [c2, mI]
      · rw [if_neg (fun e => c1 (k1.mp e))]; simp [c1, mI]
    · rw [if_neg (fun e => c0 (k0.mp e))]; simp [c0, mI]
  · have hne : ¬ bts bt q K = [116, 114, 117, 101] := by
      intro e
      have := congrArg List.length e
      rw [bts_len] at this
      exact c this
    rw [if_neg (show ¬ nI K = (4 : Int32) from fun e => c (nI_inj (b := 4) (by omega) (by omega) e))]
    simp [hne, mI]
theorem isFalseM {n : Nat} {s : StT} {tn : Nat} {bt : Nat → Nat} (hT : TxM s tn bt) {q K : Nat} (h6 : s.1 6 = nI q) (h7 : s.1 7 = nI K) (hK : q + K ≤ tn) : f_X12_isWord n s 102 97 108 115 101 = some (mI (decide (bts bt q K = [102, 97, 108, 115, 101])), s) := by
  have h1 := hT.1
  unfold f_X12_isWord f_X12_isWord_10 f_X12_isWord_26
  rw [if_neg (by decide), if_neg (by decide), h7, h6]
  by_cases c : K = 5
  · subst c
    rw [if_pos (show nI 5 = (5 : Int32) from rfl), bts5]
    have g : ∀ i, i < 5 → s.2.1 6 (q + i) = sb (bt (q + i)) ∧ bt (q + i) < 256 := fun i hi => hT.2.2 (q + i) (by omega)
    have g0 := g 0 (by omega)
    rw [Nat.add_zero] at g0
    have a1 : nI q + (1 : Int32) = nI (q + 1) := nI_add q 1
    have a2 : nI q + (2 : Int32) = nI (q + 2) := nI_add q 2
    have a3 : nI q + (3 : Int32) = nI (q + 3) := nI_add q 3
    have a4 : nI q + (4 : Int32) = nI (q + 4) := nI_add q 4
    rw [a1, a2, a3, a4]
    simp only [inB_nI (show q < 3000 by omega) (show 3000 < 2 ^ 31 by omega), inB_nI (show q + 1 < 3000 by omega) (show 3000 < 2 ^ 31 by omega), inB_nI (show q + 2 < 3000 by omega) (show 3000 < 2 ^ 31 by omega), inB_nI (show q + 3 < 3000 by omega) (show 3000 < 2 ^ 31 by omega), inB_nI (show q + 4 < 3000 by omega) (show 3000 < 2 ^ 31 by omega), if_true, i10, if_false, nI_cl (show q < 2 ^ 31 by omega), nI_cl (show q + 1 < 2 ^ 31 by omega), nI_cl (show q + 2 < 2 ^ 31 by omega), nI_cl (show q + 3 < 2 ^ 31 by omega), nI_cl (show q + 4 < 2 ^ 31 by omega), g0.1, (g 1 (by omega)).1, (g 2 (by omega)).1, (g 3 (by omega)).1, (g 4 (by omega)).1]
    have k0 : sb (bt q) = (102 : Int32) ↔ bt q = 102 := sb_low _ g0.2 102 (by omega)
    have k1 : sb (bt (q + 1)) = (97 : Int32) ↔ bt (q + 1) = 97 := sb_low _ (g 1 (by omega)).2 97 (by omega)
    have k2 : sb (bt (q + 2)) = (108 : Int32) ↔ bt (q + 2) = 108 := sb_low _ (g 2 (by omega)).2 108 (by omega)
    have k3 : sb (bt (q + 3)) = (115 : Int32) ↔ bt (q + 3) = 115 := sb_low _ (g 3 (by omega)).2 115 (by omega)
    have k4 : sb (bt (q + 4)) = (101 : Int32) ↔ bt (q + 4) = 101 := sb_low _ (g 4 (by omega)).2 101 (by omega)
    by_cases c0 : bt q = 102
    · rw [if_pos (k0.mpr c0)]
      by_cases c1 : bt (q + 1) = 97
      · rw [if_pos (k1.mpr c1)]
        by_cases c2 : bt (q + 2) = 108
        · rw [if_pos (k2.mpr c2)]
          by_cases c3 : bt (q + 3) = 115
          · rw [if_pos (k3.mpr c3)]
            by_cases c4 : bt (q + 4) = 101
            · rw [if_pos (k4.mpr c4)]; simp [c0, c1, c2, c3, c4, mI]
            · rw [if_neg (fun e => c4 (k4.mp e))]; simp [c4, mI]
          · rw [if_neg (fun e => c3 (k3.mp e))]; simp [c3, mI]
        · rw [if_neg (fun e => c2 (k2.mp e))]; simp [c2, mI]
      · rw [if_neg (fun e => c1 (k1.mp e))]; simp [c1, mI]
    · rw [if_neg (fun e => c0 (k0.mp e))]; simp [c0, mI]
  · have hne : ¬ bts bt q K = [102, 97, 108, 115, 101] := by
      intro e
      have := congrArg List.length e
      rw [bts_len] at this
      exact c this
    rw [if_neg (show ¬ nI K = (5 : Int32) from fun e => c (nI_inj (b := 5) (by omega) (by omega) e))]
    simp [hne, mI]
