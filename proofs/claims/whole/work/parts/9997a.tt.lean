/-! ===== terms that the search makes: the class binds nodes, the reference numbers ===== -/
/-- no node within the class's node c binds x -/
def NBx (sC : StT) (c x : Nat) : Prop := c < x ∨ (sC.2.1 16 c = 76 ∧ sC.2.1 20 c ≠ nI x ∧ ∃ c1, sC.2.1 17 c = nI c1 ∧ c1 < x)
theorem NBx.mv {s s' : StT} {c x : Nat} (h : NBx s c x) (h16 : s'.2.1 16 c = s.2.1 16 c) (h20 : s'.2.1 20 c = s.2.1 20 c) (h17 : s.2.1 16 c ≠ 104 → s'.2.1 17 c = s.2.1 17 c) : NBx s' c x := by
  rcases h with h | ⟨a, b, c1, d, e⟩
  · exact Or.inl h
  · exact Or.inr ⟨by rw [h16]; exact a, by rw [h20]; exact b, c1, by rw [h17 (by rw [a]; decide)]; exact d, e⟩
/-- class's node c is reference's node r, made under n hypotheses; S tells the class's node of each -/
def TT (sC sM : StT) (F : Nat) : Nat → Nat → Nat → Nat → (Nat → Nat) → Prop
  | 0, _, _, _, _ => False
  | h + 1, c, r, n, S => c < 40000 ∧ r < 60000 ∧ n < 1000 ∧
    ((sM.2.1 14 r = 77 ∧ ∃ m r1, m ≤ n ∧ r1 < r ∧ sM.2.1 15 r = nI m ∧ sM.2.1 16 r = nI r1 ∧ (∀ k, m ≤ k → k < n → NBx sC c (S k)) ∧ TT sC sM F h c r1 m S)
    ∨ (sM.2.1 14 r = 72 ∧ sC.2.1 16 c = 104 ∧ ∃ k, k < n ∧ sM.2.1 15 r = nI k ∧ c = S k)
    ∨ (sM.2.1 14 r = 84 ∧ sC.2.1 16 c = 84)
    ∨ (sM.2.1 14 r = 76 ∧ sC.2.1 16 c = 76 ∧ ∃ f c1 r1 b, f < F ∧ sC.2.1 18 c = nI f ∧ sM.2.1 15 r = nI f ∧ c1 < c ∧ sC.2.1 17 c = nI c1 ∧ r1 < r ∧ sM.2.1 16 r = nI r1 ∧ ((sC.2.1 20 c = nI b ∧ b < c ∧ sC.2.1 16 b = 104 ∧ ∀ k, k < n → S k ≠ b) ∨ (sC.2.1 20 c = -1 ∧ b = 50000)) ∧ TT sC sM F h c1 r1 (n + 1) (updN S n b))
    ∨ (∃ k c1 r1, k ∈ [70, 83, 73, 74, 88] ∧ sM.2.1 14 r = nI k ∧ sC.2.1 16 c = nI k ∧ c1 < c ∧ sC.2.1 17 c = nI c1 ∧ r1 < r ∧ sM.2.1 16 r = nI r1 ∧ sM.2.1 17 r = -1 ∧ TT sC sM F h c1 r1 n S)
    ∨ (∃ k c1 r1 c2 r2, k ∈ [65, 80] ∧ sM.2.1 14 r = nI k ∧ sC.2.1 16 c = nI k ∧ c1 < c ∧ sC.2.1 17 c = nI c1 ∧ r1 < r ∧ sM.2.1 16 r = nI r1 ∧ c2 < c ∧ sC.2.1 18 c = nI c2 ∧ r2 < r ∧ sM.2.1 17 r = nI r2 ∧ TT sC sM F h c1 r1 n S ∧ TT sC sM F h c2 r2 n S)
    ∨ (sM.2.1 14 r = 67 ∧ sC.2.1 16 c = 67 ∧ ∃ c1 r1 c2 r2 c3 r3 b, c1 < c ∧ sC.2.1 17 c = nI c1 ∧ r1 < r ∧ sM.2.1 16 r = nI r1 ∧ c2 < c ∧ sC.2.1 18 c = nI c2 ∧ r2 < r ∧ sM.2.1 17 r = nI r2 ∧ c3 < c ∧ sC.2.1 19 c = nI c3 ∧ r3 < r ∧ sM.2.1 18 r = nI r3 ∧ (sC.2.1 20 c = nI b ∧ b < c ∧ sC.2.1 16 b = 104 ∧ ∀ k, k < n → S k ≠ b) ∧ TT sC sM F h c1 r1 n S ∧ TT sC sM F h c2 r2 (n + 1) (updN S n b) ∧ TT sC sM F h c3 r3 (n + 1) (updN S n b)))
theorem TT.bd {sC sM : StT} {F h c r n : Nat} {S : Nat → Nat} (a : TT sC sM F h c r n S) : c < 40000 ∧ r < 60000 ∧ n < 1000 := by
  cases h with
  | zero => exact a.elim
  | succ h => exact ⟨a.1, a.2.1, a.2.2.1⟩
/-- more depth, a longer house, other hypotheses behind n, and states that agree below -/
theorem TT.mv {sC sM sC' sM' : StT} {F F' : Nat} (hF : F ≤ F') : ∀ {h h' c r n : Nat} {S S' : Nat → Nat}, TT sC sM F h c r n S → h ≤ h' → (∀ k, k < n → S' k = S k) → (∀ j i, (j = 16 ∨ j = 18 ∨ j = 19 ∨ j = 20) → i ≤ c → sC'.2.1 j i = sC.2.1 j i) → (∀ i, i ≤ c → sC.2.1 16 i ≠ 104 → sC'.2.1 17 i = sC.2.1 17 i) → (∀ j i, 13 < j → j < 19 → i ≤ r → sM'.2.1 j i = sM.2.1 j i) → TT sC' sM' F' h' c r n S' := by
  intro h
  induction h with
  | zero => intro h' c r n S S' a; exact a.elim
  | succ h ih =>
    intro h' c r n S S' a hh hS hC hA hM
    obtain ⟨h', rfl⟩ : ∃ z, h' = z + 1 := ⟨h' - 1, by omega⟩
    obtain ⟨a1, a2, a3, a4⟩ := a
    have up : ∀ b k, k < n + 1 → updN S' n b k = updN S n b k := fun b k hk => by
      unfold updN
      by_cases c : k = n
      · simp only [c, if_true]
      · simp only [c, if_false]; exact hS k (by omega)
    have C16 := hC 16 c (by decide) (Nat.le_refl _)
    have C18 := hC 18 c (by decide) (Nat.le_refl _)
    have C19 := hC 19 c (by decide) (Nat.le_refl _)
    have C20 := hC 20 c (by decide) (Nat.le_refl _)
    have M := fun j (h1 : 13 < j) (h2 : j < 19) => hM j r h1 h2 (Nat.le_refl _)
    refine ⟨a1, a2, a3, ?_⟩
    rw [M 14 (by decide) (by decide), M 15 (by decide) (by decide), M 16 (by decide) (by decide), M 17 (by decide) (by decide), M 18 (by decide) (by decide), C16, C18, C19, C20]
    rcases a4 with ⟨b1, m, r1, b2, b3, b4, b5, b50, b6⟩ | ⟨b1, b2, k, b3, b4, b5⟩ | b | ⟨b1, b2, f, c1, r1, b, b3, b4, b5, b6, b7, b8, b9, b10, b11⟩ | ⟨k, c1, r1, b1, b2, b3, b4, b5, b6, b7, b70, b8⟩ | ⟨k, c1, r1, c2, r2, b1, b2, b3, b4, b5, b6, b7, b8, b9, b10, b11, b12, b13⟩ | ⟨b1, b2, c1, r1, c2, r2, c3, r3, b, d1, d2, d3, d4, d5, d6, d7, d8, d9, d10, d11, d12, d13, d14, d15, d16⟩
    · exact Or.inl ⟨b1, m, r1, b2, b3, b4, b5, fun k h1 h2 => by rw [hS k h2]; exact (b50 k h1 h2).mv C16 C20 (hA c (Nat.le_refl _)), ih b6 (by omega) (fun k hk => hS k (by omega)) hC hA (fun j i x y z => hM j i x y (by omega))⟩
    · exact Or.inr (Or.inl ⟨b1, b2, k, b3, b4, by rw [hS k b3]; exact b5⟩)
    · exact Or.inr (Or.inr (Or.inl b))
    · have A17 := hA c (Nat.le_refl _) (by rw [b2]; decide)
      refine Or.inr (Or.inr (Or.inr (Or.inl ⟨b1, b2, f, c1, r1, b, by omega, b4, b5, b6, by rw [A17]; exact b7, b8, b9, ?_, ih b11 (by omega) (up b) (fun j i x y => hC j i x (by omega)) (fun i x y => hA i (by omega) y) (fun j i x y z => hM j i x y (by omega))⟩)))
      rcases b10 with ⟨x1, x2, x3, x4⟩ | x
      · exact Or.inl ⟨x1, x2, by rw [hC 16 b (by decide) (by omega)]; exact x3, fun k hk => by rw [hS k hk]; exact x4 k hk⟩
      · exact Or.inr x
    · have A17 := hA c (Nat.le_refl _) (by rw [b3]; exact (show ∀ k, k ∈ [70, 83, 73, 74, 88] → nI k ≠ 104 by decide) k b1)
      exact Or.inr (Or.inr (Or.inr (Or.inr (Or.inl ⟨k, c1, r1, b1, b2, b3, b4, by rw [A17]; exact b5, b6, b7, b70, ih b8 (by omega) hS (fun j i x y => hC j i x (by omega)) (fun i x y => hA i (by omega) y) (fun j i x y z => hM j i x y (by omega))⟩))))
    · have A17 := hA c (Nat.le_refl _) (by rw [b3]; exact (show ∀ k, k ∈ [65, 80] → nI k ≠ 104 by decide) k b1)
      exact Or.inr (Or.inr (Or.inr (Or.inr (Or.inr (Or.inl ⟨k, c1, r1, c2, r2, b1, b2, b3, b4, by rw [A17]; exact b5, b6, b7, b8, b9, b10, b11, ih b12 (by omega) hS (fun j i x y => hC j i x (by omega)) (fun i x y => hA i (by omega) y) (fun j i x y z => hM j i x y (by omega)), ih b13 (by omega) hS (fun j i x y => hC j i x (by omega)) (fun i x y => hA i (by omega) y) (fun j i x y z => hM j i x y (by omega))⟩)))))
    · have A17 := hA c (Nat.le_refl _) (by rw [b2]; decide)
      refine Or.inr (Or.inr (Or.inr (Or.inr (Or.inr (Or.inr ⟨b1, b2, c1, r1, c2, r2, c3, r3, b, d1, by rw [A17]; exact d2, d3, d4, d5, d6, d7, d8, d9, d10, d11, d12, ?_, ih d14 (by omega) hS (fun j i x y => hC j i x (by omega)) (fun i x y => hA i (by omega) y) (fun j i x y z => hM j i x y (by omega)), ih d15 (by omega) (up b) (fun j i x y => hC j i x (by omega)) (fun i x y => hA i (by omega) y) (fun j i x y z => hM j i x y (by omega)), ih d16 (by omega) (up b) (fun j i x y => hC j i x (by omega)) (fun i x y => hA i (by omega) y) (fun j i x y z => hM j i x y (by omega))⟩)))))
      obtain ⟨x1, x2, x3, x4⟩ := d13
      exact ⟨x1, x2, by rw [hC 16 b (by decide) (by omega)]; exact x3, fun k hk => by rw [hS k hk]; exact x4 k hk⟩
def TTx (sC sM : StT) (F c r n : Nat) (S : Nat → Nat) : Prop := ∃ h, TT sC sM F h c r n S
/-- the makers of terms -/
def aT1 (s : StT) (N : Nat) (k a b c d : Int32) : StT := uF (uA (uA (uA (uA (uA s 16 (nI N) k) 17 (nI N) a) 18 (nI N) b) 19 (nI N) c) 20 (nI N) d) 16 (nI (N + 1))
theorem addT1 {n : Nat} {s : StT} {N : Nat} (h : s.1 16 = nI N) (hN : N < 30027) (k a b c d : Int32) : f_X7_add_T1 n s k a b c d = some (nI N, aT1 s N k a b c d) := by
  unfold f_X7_add_T1 aT1
  rw [h, if_neg (nI_nneg (by omega)), if_pos (show nI N < (30027 : Int32) from (nI_ltI (b := 30027) (by omega) (by omega)).mpr hN)]
  simp only [inB_nI hN (by omega), if_true, uA_1, h, nI_1]
theorem aT1_rows {s : StT} {N : Nat} (hN : N < 30027) (k a b c d : Int32) : (aT1 s N k a b c d).2.1 16 N = k ∧ (aT1 s N k a b c d).2.1 17 N = a ∧ (aT1 s N k a b c d).2.1 18 N = b ∧ (aT1 s N k a b c d).2.1 19 N = c ∧ (aT1 s N k a b c d).2.1 20 N = d := by
  unfold aT1
  simp only [uF_2, uA_21, if_true, if_neg (show ¬ (16 : Nat) = 17 by decide), if_neg (show ¬ (16 : Nat) = 18 by decide), if_neg (show ¬ (16 : Nat) = 19 by decide), if_neg (show ¬ (16 : Nat) = 20 by decide), if_neg (show ¬ (17 : Nat) = 18 by decide), if_neg (show ¬ (17 : Nat) = 19 by decide), if_neg (show ¬ (17 : Nat) = 20 by decide), if_neg (show ¬ (18 : Nat) = 19 by decide), if_neg (show ¬ (18 : Nat) = 20 by decide), if_neg (show ¬ (19 : Nat) = 20 by decide), upd_j, nI_cl (show N < 2 ^ 31 by omega)]
  exact ⟨trivial, trivial, trivial, trivial, trivial⟩
/-- what making terms leaves as it is, in the class: below N, and all that is no term -/
def GC (N : Nat) (s s' : StT) : Prop := (∀ j, j ≠ 16 → s'.1 j = s.1 j) ∧ (∀ j, (j < 16 ∨ 20 < j) → s'.2.1 j = s.2.1 j) ∧ (∀ j r, 15 < j → j < 21 → r < N → s'.2.1 j r = s.2.1 j r) ∧ s'.2.2 = s.2.2
def GM (N : Nat) (s s' : StT) : Prop := (∀ j, j ≠ 18 → s'.1 j = s.1 j) ∧ (∀ j, (j < 14 ∨ 18 < j) → s'.2.1 j = s.2.1 j) ∧ (∀ j r, 13 < j → j < 19 → r < N → s'.2.1 j r = s.2.1 j r) ∧ s'.2.2 = s.2.2
theorem GC.rf (N : Nat) (s : StT) : GC N s s := ⟨fun _ _ => rfl, fun _ _ => rfl, fun _ _ _ _ _ => rfl, rfl⟩
theorem GM.rf (N : Nat) (s : StT) : GM N s s := ⟨fun _ _ => rfl, fun _ _ => rfl, fun _ _ _ _ _ => rfl, rfl⟩
theorem GC.tr {N N' : Nat} {a b c : StT} (x : GC N a b) (y : GC N' b c) (h : N ≤ N') : GC N a c := ⟨fun j h => (y.1 j h).trans (x.1 j h), fun j h => (y.2.1 j h).trans (x.2.1 j h), fun j r h1 h2 h3 => (y.2.2.1 j r h1 h2 (by omega)).trans (x.2.2.1 j r h1 h2 h3), y.2.2.2.trans x.2.2.2⟩
theorem GM.tr {N N' : Nat} {a b c : StT} (x : GM N a b) (y : GM N' b c) (h : N ≤ N') : GM N a c := ⟨fun j h => (y.1 j h).trans (x.1 j h), fun j h => (y.2.1 j h).trans (x.2.1 j h), fun j r h1 h2 h3 => (y.2.2.1 j r h1 h2 (by omega)).trans (x.2.2.1 j r h1 h2 h3), y.2.2.2.trans x.2.2.2⟩
theorem aT1_fr {s : StT} {N : Nat} (hN : N < 30027) (k a b c d : Int32) : GC N s (aT1 s N k a b c d) := by
  refine ⟨fun j hj => ?_, fun j hj => ?_, fun j r h1 h2 hr => ?_, rfl⟩
  · unfold aT1; simp only [uF_1, uA_1]; rw [if_neg hj]
  · unfold aT1; simp only [uF_2, uA_21]
    rw [if_neg (by omega), if_neg (by omega), if_neg (by omega), if_neg (by omega), if_neg (by omega)]
  · unfold aT1
    simp only [uF_2, uA_21]
    have e : ∀ (g : Nat → Int32) (x : Int32), upd g (nI N).toNatClampNeg x r = g r := fun g x => by rw [upd_j, nI_cl (by omega), if_neg (by omega)]
    repeat' split
    all_goals simp only [e]
def tM (s : StT) (R : Nat) (k x a b c : Int32) : StT := uF (uA (uA (uA (uA (uA s 14 (nI R) k) 15 (nI R) x) 16 (nI R) a) 17 (nI R) b) 18 (nI R) c) 18 (nI (R + 1))
theorem termM {n : Nat} {s : StT} {R : Nat} (h : s.1 18 = nI R) (hR : R < 60000) (k x a b c : Int32) : f_X12_term n s k x a b c = some (nI R, tM s R k x a b c) := by
  unfold f_X12_term tM
  simp only [uA_1, h, inB_nI hR (by omega), if_true, uF_1, nI_1, nI_m1]
theorem tM_rows {s : StT} {R : Nat} (hR : R < 60000) (k x a b c : Int32) : (tM s R k x a b c).2.1 14 R = k ∧ (tM s R k x a b c).2.1 15 R = x ∧ (tM s R k x a b c).2.1 16 R = a ∧ (tM s R k x a b c).2.1 17 R = b ∧ (tM s R k x a b c).2.1 18 R = c := by
  unfold tM
  simp only [uF_2, uA_21, if_true, if_neg (show ¬ (14 : Nat) = 15 by decide), if_neg (show ¬ (14 : Nat) = 16 by decide), if_neg (show ¬ (14 : Nat) = 17 by decide), if_neg (show ¬ (14 : Nat) = 18 by decide), if_neg (show ¬ (15 : Nat) = 16 by decide), if_neg (show ¬ (15 : Nat) = 17 by decide), if_neg (show ¬ (15 : Nat) = 18 by decide), if_neg (show ¬ (16 : Nat) = 17 by decide), if_neg (show ¬ (16 : Nat) = 18 by decide), if_neg (show ¬ (17 : Nat) = 18 by decide), upd_j, nI_cl (show R < 2 ^ 31 by omega)]
  exact ⟨trivial, trivial, trivial, trivial, trivial⟩
theorem tM_fr {s : StT} {R : Nat} (hR : R < 60000) (k x a b c : Int32) : GM R s (tM s R k x a b c) := by
  refine ⟨fun j hj => ?_, fun j hj => ?_, fun j r h1 h2 hr => ?_, rfl⟩
  · unfold tM; simp only [uF_1, uA_1]; rw [if_neg hj]
  · unfold tM; simp only [uF_2, uA_21]
    rw [if_neg (by omega), if_neg (by omega), if_neg (by omega), if_neg (by omega), if_neg (by omega)]
  · unfold tM
    simp only [uF_2, uA_21]
    have e : ∀ (g : Nat → Int32) (x : Int32), upd g (nI R).toNatClampNeg x r = g r := fun g x => by rw [upd_j, nI_cl (by omega), if_neg (by omega)]
    repeat' split
    all_goals simp only [e]
/-- terms stay what they are while others are made -/
theorem TTx.gr {sC sM sC' sM' : StT} {F F' c r n N R : Nat} {S S' : Nat → Nat} (h : TTx sC sM F c r n S) (hF : F ≤ F') (hS : ∀ k, k < n → S' k = S k) (gC : GC N sC sC') (gM : GM R sM sM') (hc : c < N) (hr : r < R) : TTx sC' sM' F' c r n S' := by
  obtain ⟨h, a⟩ := h
  exact ⟨h, a.mv hF (Nat.le_refl _) hS (fun j i x y => gC.2.2.1 j i (by omega) (by omega) (by omega)) (fun i x _ => gC.2.2.1 17 i (by decide) (by decide) (by omega)) (fun j i x y z => gM.2.2.1 j i x y (by omega))⟩
