/-! ===== signs ===== -/
theorem chr_b : ∀ b, b < 256 → ((nI b).toUInt32 % 65536).toInt32 = nI b := by decide +kernel
theorem len_s0 (n : Nat) (s : StT) : f_J0_length_8abf5_s0 n s = some (nI 5, s) := by
  unfold f_J0_length_8abf5_s0 f_J0_coder_7d493_s0
  rw [if_neg (by decide), if_pos (show isB 0 = true by decide), Option.bind_some, show (5 : Int32) >>> ((0 : Int32) &&& 31) = nI 5 by decide]
theorem idx_loop0 {n : Nat} {s : StT} {c : Int32} : ∀ (d i fu : Nat), i + d = 5 → d < fu → ∃ r, f_J1_indexOfChar_4cfef_v0_7 n fu s (nI 5) c (nI i) = some (r, s) ∧ (0 ≤ r ↔ ∃ j, j < 5 ∧ i ≤ j ∧ (strByt.getD 0 []).getD j 0 = c) := by
  intro d
  induction d with
  | zero =>
    intro i fu hi hfu
    obtain ⟨fu, rfl⟩ : ∃ q, fu = q + 1 := ⟨fu - 1, by omega⟩
    rw [f_J1_indexOfChar_4cfef_v0_7, if_pos ((nI_leI (by omega) (by omega)).mpr (by omega))]
    refine ⟨-1, rfl, ⟨fun e => absurd e (by decide), fun ⟨j, h1, h2, _⟩ => by omega⟩⟩
  | succ d ih =>
    intro i fu hi hfu
    obtain ⟨fu, rfl⟩ : ∃ q, fu = q + 1 := ⟨fu - 1, by omega⟩
    rw [f_J1_indexOfChar_4cfef_v0_7, if_neg (fun e => absurd ((nI_leI (by omega) (by omega)).mp e) (by omega)), inB_nI (show i < 5 by omega) (by omega), if_pos rfl, nI_cl (by omega)]
    by_cases c1 : (strByt.getD 0 []).getD i 0 = c
    · rw [if_pos c1]
      exact ⟨nI i, rfl, ⟨fun _ => ⟨i, by omega, Nat.le_refl _, c1⟩, fun _ => nI_pos' (by omega)⟩⟩
    · rw [if_neg c1, nI_1]
      obtain ⟨r, e1, e2⟩ := ih (i + 1) fu (by omega) (by omega)
      refine ⟨r, e1, e2.trans ⟨fun ⟨j, h1, h2, h3⟩ => ⟨j, h1, by omega, h3⟩, fun ⟨j, h1, h2, h3⟩ => ⟨j, h1, ?_, h3⟩⟩⟩
      rcases Nat.eq_or_lt_of_le h2 with z | z
      · subst z; exact absurd h3 c1
      · omega
theorem idx0 {n : Nat} (hn : 100000 ≤ n) {s : StT} {b : Nat} (hb : b < 256) : ∃ r, f_J0_indexOf_0f7a4_s0 n s ((nI b).toUInt32 % 65536).toInt32 = some (r, s) ∧ (0 ≤ r ↔ ∃ j, j < 5 ∧ 0 ≤ j ∧ (strByt.getD 0 []).getD j 0 = sb b) := by
  obtain ⟨r, e1, e2⟩ := idx_loop0 (n := n) (s := s) (c := sb b) 5 0 n (by omega) (by omega)
  refine ⟨r, ?_, e2⟩
  rw [chr_b b hb]
  unfold f_J0_indexOf_0f7a4_s0 f_J0_indexOf_7cf53_s0 f_J0_isLatin1_aae02_s0
  rw [if_neg (show ¬ (1 : Int32) = 0 by decide), if_pos (show (0 : Int32) = 0 from rfl), Option.bind_some, if_neg (show ¬ (1 : Int32) = 0 by decide), len_s0, Option.bind_some]
  unfold f_J1_indexOf_4cfef_v0 f_J1_canEncode_9a6ad
  rw [if_neg (nI_nneg (by omega)), if_neg (show ¬ (255 : Int32) < nI b from fun e => absurd ((nI_ltI (a := 255) (by omega) (by omega)).mp e) (by omega)), Option.bind_some, if_neg (show ¬ (1 : Int32) = 0 by decide)]
  rw [show (if (0 : Int32) < (0 : Int32) then (0 : Int32) else 0) = nI 0 by decide, show (if (5 : Int32) < nI 5 then (5 : Int32) else nI 5) = nI 5 by decide, if_pos (show nI 0 < nI 5 by decide)]
  unfold f_J1_indexOfChar_4cfef_v0
  rw [show (nI b).toInt8.toInt32 = sb b from rfl, e1]
  rfl
theorem len_s1 (n : Nat) (s : StT) : f_J0_length_8abf5_s1 n s = some (nI 11, s) := by
  unfold f_J0_length_8abf5_s1 f_J0_coder_7d493_s1
  rw [if_neg (by decide), if_pos (show isB 0 = true by decide), Option.bind_some, show (11 : Int32) >>> ((0 : Int32) &&& 31) = nI 11 by decide]
theorem idx_loop1 {n : Nat} {s : StT} {c : Int32} : ∀ (d i fu : Nat), i + d = 11 → d < fu → ∃ r, f_J1_indexOfChar_4cfef_v1_7 n fu s (nI 11) c (nI i) = some (r, s) ∧ (0 ≤ r ↔ ∃ j, j < 11 ∧ i ≤ j ∧ (strByt.getD 1 []).getD j 0 = c) := by
  intro d
  induction d with
  | zero =>
    intro i fu hi hfu
    obtain ⟨fu, rfl⟩ : ∃ q, fu = q + 1 := ⟨fu - 1, by omega⟩
    rw [f_J1_indexOfChar_4cfef_v1_7, if_pos ((nI_leI (by omega) (by omega)).mpr (by omega))]
    refine ⟨-1, rfl, ⟨fun e => absurd e (by decide), fun ⟨j, h1, h2, _⟩ => by omega⟩⟩
  | succ d ih =>
    intro i fu hi hfu
    obtain ⟨fu, rfl⟩ : ∃ q, fu = q + 1 := ⟨fu - 1, by omega⟩
    rw [f_J1_indexOfChar_4cfef_v1_7, if_neg (fun e => absurd ((nI_leI (by omega) (by omega)).mp e) (by omega)), inB_nI (show i < 11 by omega) (by omega), if_pos rfl, nI_cl (by omega)]
    by_cases c1 : (strByt.getD 1 []).getD i 0 = c
    · rw [if_pos c1]
      exact ⟨nI i, rfl, ⟨fun _ => ⟨i, by omega, Nat.le_refl _, c1⟩, fun _ => nI_pos' (by omega)⟩⟩
    · rw [if_neg c1, nI_1]
      obtain ⟨r, e1, e2⟩ := ih (i + 1) fu (by omega) (by omega)
      refine ⟨r, e1, e2.trans ⟨fun ⟨j, h1, h2, h3⟩ => ⟨j, h1, by omega, h3⟩, fun ⟨j, h1, h2, h3⟩ => ⟨j, h1, ?_, h3⟩⟩⟩
      rcases Nat.eq_or_lt_of_le h2 with z | z
      · subst z; exact absurd h3 c1
      · omega
theorem idx1 {n : Nat} (hn : 100000 ≤ n) {s : StT} {b : Nat} (hb : b < 256) : ∃ r, f_J0_indexOf_0f7a4_s1 n s ((nI b).toUInt32 % 65536).toInt32 = some (r, s) ∧ (0 ≤ r ↔ ∃ j, j < 11 ∧ 0 ≤ j ∧ (strByt.getD 1 []).getD j 0 = sb b) := by
  obtain ⟨r, e1, e2⟩ := idx_loop1 (n := n) (s := s) (c := sb b) 11 0 n (by omega) (by omega)
  refine ⟨r, ?_, e2⟩
  rw [chr_b b hb]
  unfold f_J0_indexOf_0f7a4_s1 f_J0_indexOf_7cf53_s1 f_J0_isLatin1_aae02_s1
  rw [if_neg (show ¬ (1 : Int32) = 0 by decide), if_pos (show (0 : Int32) = 0 from rfl), Option.bind_some, if_neg (show ¬ (1 : Int32) = 0 by decide), len_s1, Option.bind_some]
  unfold f_J1_indexOf_4cfef_v1 f_J1_canEncode_9a6ad
  rw [if_neg (nI_nneg (by omega)), if_neg (show ¬ (255 : Int32) < nI b from fun e => absurd ((nI_ltI (a := 255) (by omega) (by omega)).mp e) (by omega)), Option.bind_some, if_neg (show ¬ (1 : Int32) = 0 by decide)]
  rw [show (if (0 : Int32) < (0 : Int32) then (0 : Int32) else 0) = nI 0 by decide, show (if (11 : Int32) < nI 11 then (11 : Int32) else nI 11) = nI 11 by decide, if_pos (show nI 0 < nI 11 by decide)]
  unfold f_J1_indexOfChar_4cfef_v1
  rw [show (nI b).toInt8.toInt32 = sb b from rfl, e1]
  rfl
theorem sg_0 : ∀ b, b < 256 → ((∃ j, j < 5 ∧ 0 ≤ j ∧ (strByt.getD 0 []).getD j 0 = sb b) ↔ sg8 false b = true) := by decide +kernel
theorem sg_1 : ∀ b, b < 256 → ((∃ j, j < 11 ∧ 0 ≤ j ∧ (strByt.getD 1 []).getD j 0 = sb b) ↔ (sg8 true b = true ∧ sg8 false b = false)) := by decide +kernel
