/-! ===== tokens as both sides look at them ===== -/
def TKP : List (Int32 × Int32) := [(-1, 262), (0, 256), (110, 257), (116, 258), (102, 259), (62, 260), (61, 261), (40, 40), (41, 41), (38, 38), (124, 124), (126, 126), (44, 44), (84, 84), (76, 76), (65, 65), (80, 80), (70, 70), (83, 83), (73, 73), (74, 74), (67, 67), (88, 88)]
theorem sg_TKP : ∀ b, b < 256 → ∀ tm : Bool, sg8 tm b = true → (nI b, nI b) ∈ TKP := by decide +kernel
theorem tk_mem {tm : Bool} {tn : Nat} {bt : Nat → Nat} (hb : ∀ i, i < tn → bt i < 256) (q : Nat) : ((tk tm tn bt q).1, (tk tm tn bt q).2.1) ∈ TKP := by
  unfold tk
  by_cases h : q < tn
  · rw [if_pos h]
    by_cases h1 : lt8 (bt q) = true
    · rw [if_pos h1]
      by_cases h2 : nx tn bt q - q ≤ 6
      · rw [if_pos h2]
        unfold wdC wdM
        by_cases c1 : wd (bts bt q (nx tn bt q - q)) = 1
        · simp only [c1, if_true]; decide
        · by_cases c2 : wd (bts bt q (nx tn bt q - q)) = 2
          · simp only [c2, if_true, if_neg (show ¬ (2 : Nat) = 1 by decide)]; decide
          · simp only [c1, c2, if_false]; decide
      · rw [if_neg h2]; decide
    · rw [if_neg h1]
      by_cases h2 : bt q = 45 ∧ q + 1 < tn ∧ bt (q + 1) = 62
      · rw [if_pos h2]; decide
      · rw [if_neg h2]
        by_cases h3 : bt q = 60 ∧ (q + 1 < tn ∧ bt (q + 1) = 45) ∧ q + 2 < tn ∧ bt (q + 2) = 62
        · rw [if_pos h3]; decide
        · rw [if_neg h3]
          by_cases h4 : sg8 tm (bt q) = true
          · rw [if_pos h4]; exact sg_TKP _ (hb q h) tm h4
          · rw [if_neg h4]; decide
  · rw [if_neg h]; decide
theorem tkp_m1 : ∀ pr, pr ∈ TKP → (pr.1 = -1 ↔ pr.2 = 262) := by decide
theorem tkp_0 : ∀ pr, pr ∈ TKP → (pr.1 = 0 ↔ pr.2 = 256) := by decide
theorem tkp_n : ∀ pr, pr ∈ TKP → (pr.1 = 110 ↔ pr.2 = 257) := by decide
theorem tkp_t : ∀ pr, pr ∈ TKP → (pr.1 = 116 ↔ pr.2 = 258) := by decide
theorem tkp_f : ∀ pr, pr ∈ TKP → (pr.1 = 102 ↔ pr.2 = 259) := by decide
theorem tkp_ar : ∀ pr, pr ∈ TKP → (pr.1 = 62 ↔ pr.2 = 260) := by decide
theorem tkp_tw : ∀ pr, pr ∈ TKP → (pr.1 = 61 ↔ pr.2 = 261) := by decide
theorem tkp_s : ∀ pr, pr ∈ TKP → ∀ c, c ∈ [(40 : Int32), 41, 38, 124, 126, 44, 84, 76, 65, 80, 70, 83, 73, 74, 67, 88] → (pr.1 = c ↔ pr.2 = c) := by decide
/-- the size of a token: none only at the end or where there is no token -/
theorem tk_size {tm : Bool} {tn : Nat} {bt : Nat → Nat} {q : Nat} (hq : q ≤ tn) : q + (tk tm tn bt q).2.2 ≤ tn ∧ ((tk tm tn bt q).1 ≠ -1 → (tk tm tn bt q).1 ≠ 0 → 1 ≤ (tk tm tn bt q).2.2) ∧ (tk tm tn bt q).2.2 ≤ 6 := by
  unfold tk
  by_cases h : q < tn
  · rw [if_pos h]
    by_cases h1 : lt8 (bt q) = true
    · rw [if_pos h1]
      by_cases h2 : nx tn bt q - q ≤ 6
      · rw [if_pos h2]
        have e := nx_bd (tn := tn) (bt := bt) (tn - q) q (by omega)
        have e2 : q + 1 ≤ nx tn bt q := by
          have a : nx tn bt q = nx tn bt (q + 1) := by
            rw [nx_e, if_pos ⟨h, by unfold nc8; rw [h1]; rfl⟩]
          have := nx_bd (tn := tn) (bt := bt) (tn - (q + 1)) (q + 1) (by omega)
          omega
        exact ⟨by simp only []; omega, fun _ _ => by simp only []; omega, h2⟩
      · rw [if_neg h2]; exact ⟨by simp only []; omega, fun a => absurd rfl a, by simp⟩
    · rw [if_neg h1]
      by_cases h2 : bt q = 45 ∧ q + 1 < tn ∧ bt (q + 1) = 62
      · rw [if_pos h2]; exact ⟨by simp only []; omega, fun _ _ => by simp, by simp⟩
      · rw [if_neg h2]
        by_cases h3 : bt q = 60 ∧ (q + 1 < tn ∧ bt (q + 1) = 45) ∧ q + 2 < tn ∧ bt (q + 2) = 62
        · rw [if_pos h3]; exact ⟨by simp only []; omega, fun _ _ => by simp, by simp⟩
        · rw [if_neg h3]
          by_cases h4 : sg8 tm (bt q) = true
          · rw [if_pos h4]; exact ⟨by simp only []; omega, fun _ _ => by simp, by simp⟩
          · rw [if_neg h4]; exact ⟨by simp only []; omega, fun a => absurd rfl a, by simp⟩
  · rw [if_neg h]; exact ⟨by simp only []; omega, fun _ a => absurd rfl a, by simp⟩
/-- a name is of at most six bytes, and is what the text has there -/
theorem tk_name {tm : Bool} {tn : Nat} {bt : Nat → Nat} {q : Nat} (hb : ∀ i, i < tn → bt i < 256) (h : (tk tm tn bt q).1 = 110) : q < tn ∧ lt8 (bt q) = true ∧ nx tn bt q - q ≤ 6 ∧ (tk tm tn bt q).2.2 = nx tn bt q - q := by
  revert h
  unfold tk
  by_cases h : q < tn
  · rw [if_pos h]
    by_cases h1 : lt8 (bt q) = true
    · rw [if_pos h1]
      by_cases h2 : nx tn bt q - q ≤ 6
      · rw [if_pos h2]; exact fun _ => ⟨h, h1, h2, rfl⟩
      · rw [if_neg h2]; intro e; exact absurd e (by decide)
    · rw [if_neg h1]
      by_cases h2 : bt q = 45 ∧ q + 1 < tn ∧ bt (q + 1) = 62
      · rw [if_pos h2]; intro e; exact absurd e (by decide)
      · rw [if_neg h2]
        by_cases h3 : bt q = 60 ∧ (q + 1 < tn ∧ bt (q + 1) = 45) ∧ q + 2 < tn ∧ bt (q + 2) = 62
        · rw [if_pos h3]; intro e; exact absurd e (by decide)
        · rw [if_neg h3]
          by_cases h4 : sg8 tm (bt q) = true
          · rw [if_pos h4]; intro e
            have e' : bt q = 110 := nI_inj (by have := hb q h; omega) (by decide) e
            rw [e'] at h1; exact absurd (show lt8 110 = true by decide) h1
          · rw [if_neg h4]; intro e; exact absurd e (by decide)
  · rw [if_neg h]; intro e; exact absurd e (by decide)
/-! ===== the house, and what is being read ===== -/
abbrev HD : Type := FT × Nat × (Nat → Nat) × (Nat → List Nat)
def HS (D : HD) (sC sM : StT) : Prop := CFt sC D.1 ∧ MF sM D.1 ∧ WFt D.1 D.2.1 ∧ sC.1 7 = nI D.2.1 ∧ VF sM D.1 D.2.1 D.2.2.1 ∧ NmC sC D.2.1 D.2.2.2 ∧ NmM sM D.2.1 D.2.2.2 ∧ NmW D.2.1 D.2.2.2
/-- the house only grows -/
def Gd (D D' : HD) : Prop := D.1.1 ≤ D'.1.1 ∧ (∀ f, f < D.1.1 → D'.1.2.1 f = D.1.2.1 f ∧ D'.1.2.2.1 f = D.1.2.2.1 f ∧ D'.1.2.2.2 f = D.1.2.2.2 f) ∧ D.2.1 ≤ D'.2.1
theorem Gd.rf (D : HD) : Gd D D := ⟨Nat.le_refl _, fun _ _ => ⟨rfl, rfl, rfl⟩, Nat.le_refl _⟩
theorem Gd.tr {D1 D2 D3 : HD} (a : Gd D1 D2) (b : Gd D2 D3) : Gd D1 D3 := ⟨Nat.le_trans a.1 b.1, fun f hf => by
  have x := a.2.1 f hf; have y := b.2.1 f (Nat.lt_of_lt_of_le hf a.1); exact ⟨y.1.trans x.1, y.2.1.trans x.2.1, y.2.2.trans x.2.2⟩, Nat.le_trans a.2.2 b.2.2⟩
/-- what the reading of a formula leaves as it is -/
def FRC (s s' : StT) : Prop := (∀ j, (j < 2 ∨ j = 8 ∨ 11 < j) → s'.1 j = s.1 j) ∧ (∀ j, (j < 2 ∨ 6 < j) → s'.2.1 j = s.2.1 j) ∧ (∀ j, j ≠ 0 → s'.2.2.1 j = s.2.2.1 j) ∧ ∀ j, j ≠ 0 → s'.2.2.2 j = s.2.2.2 j
def FRM (d : Nat) (s s' : StT) : Prop := (∀ j, (j = 1 ∨ j = 3 ∨ j = 9 ∨ j = 12 ∨ (13 < j ∧ j ≠ 17)) → s'.1 j = s.1 j) ∧ (∀ j, ((5 < j ∧ j < 10) ∨ 13 < j) → s'.2.1 j = s.2.1 j) ∧ (∀ j i, 9 < j → j < 14 → i < d → s'.2.1 j i = s.2.1 j i) ∧ s'.2.2 = s.2.2
theorem FRC.rf (s : StT) : FRC s s := ⟨fun _ _ => rfl, fun _ _ => rfl, fun _ _ => rfl, fun _ _ => rfl⟩
theorem FRC.tr {s1 s2 s3 : StT} (a : FRC s1 s2) (b : FRC s2 s3) : FRC s1 s3 := ⟨fun j h => (b.1 j h).trans (a.1 j h), fun j h => (b.2.1 j h).trans (a.2.1 j h), fun j h => (b.2.2.1 j h).trans (a.2.2.1 j h), fun j h => (b.2.2.2 j h).trans (a.2.2.2 j h)⟩
theorem FRM.rf (d : Nat) (s : StT) : FRM d s s := ⟨fun _ _ => rfl, fun _ _ => rfl, fun _ _ _ _ _ => rfl, rfl⟩
theorem FRM.tr {d : Nat} {s1 s2 s3 : StT} (a : FRM d s1 s2) (b : FRM d s2 s3) : FRM d s1 s3 := ⟨fun j h => (b.1 j h).trans (a.1 j h), fun j h => (b.2.1 j h).trans (a.2.1 j h), fun j i h1 h2 h3 => (b.2.2.1 j i h1 h2 h3).trans (a.2.2.1 j i h1 h2 h3), b.2.2.2.trans a.2.2.2⟩
theorem FRM.lo {d d' : Nat} {s s' : StT} (a : FRM d' s s') (h : d ≤ d') : FRM d s s' := ⟨a.1, a.2.1, fun j i h1 h2 h3 => a.2.2.1 j i h1 h2 (by omega), a.2.2.2⟩
def Tk0 (p : Nat) (sC sM : StT) : Prop := sC.1 2 = 0 ∧ sM.1 8 = 0 ∧ sC.1 5 = nI p ∧ sM.1 4 = nI p
/-- q is where the token stands, k what it is -/
def Tk1 (tn : Nat) (bt : Nat → Nat) (q : Nat) (k : Int32 × Int32 × Nat) (sC sM : StT) : Prop := sC.1 2 = 1 ∧ sM.1 8 = 1 ∧ k.1 ≠ -1 ∧ k.2.1 ≠ 262 ∧ sC.1 3 = k.1 ∧ sC.1 4 = nI q ∧ sC.1 5 = nI (q + k.2.2) ∧ sM.1 5 = k.2.1 ∧ sM.1 6 = nI q ∧ sM.1 7 = nI k.2.2 ∧ (k.1 = 110 → sC.2.2.1 0 = Int64.ofNat (pkN (bts bt q k.2.2)))
abbrev TX : Type := Bool × Nat × (Nat → Nat)
/-- what the reading of one text keeps -/
def RT0 (X : TX) (sC sM : StT) : Prop := TxC sC X.2.1 X.2.2 ∧ TxM sM X.2.1 X.2.2 ∧ sC.1 1 = mI X.1 ∧ sM.1 9 = mI X.1
abbrev skX (X : TX) (p : Nat) : Nat := sk X.2.1 X.2.2 p
abbrev tkX (X : TX) (q : Nat) : Int32 × Int32 × Nat := tk X.1 X.2.1 X.2.2 q
/-- both sides are at p with o open, and nothing is wrong yet -/
def RB (X : TX) (D : HD) (o : Nat) (sC sM : StT) : Prop := HS D sC sM ∧ RT0 X sC sM ∧ (o ≤ 40 ∧ sC.1 11 = -1) ∧ sC.1 9 = nI o ∧ sM.1 13 = nI o ∧ sC.1 10 = 0 ∧ sM.1 10 = 0
def RS (X : TX) (D : HD) (p o : Nat) (sC sM : StT) : Prop := RB X D o sC sM ∧ p ≤ X.2.1 ∧ (Tk0 p sC sM ∨ Tk1 X.2.1 X.2.2 (skX X p) (tkX X (skX X p)) sC sM)
def RX (D : HD) (sC sM : StT) : Prop := HS D sC sM ∧ ∃ c, c ≠ 0 ∧ c < 10 ∧ sC.1 10 = nI c ∧ sM.1 10 = nI c ∧ sC.1 11 = sM.1 11
/-- the house looks at few cells -/
theorem HS.mv {D : HD} {sC sM sC' sM' : StT} (h : HS D sC sM) (a6 : sC'.1 6 = sC.1 6) (a7 : sC'.1 7 = sC.1 7) (aA : ∀ j, 1 < j → j < 7 → sC'.2.1 j = sC.2.1 j) (aN : sC'.2.2.2 0 = sC.2.2.2 0) (b0 : sM'.1 0 = sM.1 0) (b2 : sM'.1 2 = sM.1 2) (bA : ∀ j, j < 6 → sM'.2.1 j = sM.2.1 j) : HS D sC' sM' := by
  obtain ⟨h1, h2, h3, h4, h5, h6, h7, h8⟩ := h
  refine ⟨?_, ?_, h3, by rw [a7]; exact h4, ?_, ?_, ?_, h8⟩
  · unfold CFt CFF0 at h1 ⊢
    rw [a6, aA 2 (by decide) (by decide), aA 3 (by decide) (by decide), aA 4 (by decide) (by decide), aA 5 (by decide) (by decide), aA 6 (by decide) (by decide)]
    exact h1
  · unfold MF at h2 ⊢
    rw [b0, bA 0 (by decide), bA 1 (by decide), bA 2 (by decide)]
    exact h2
  · unfold VF at h5 ⊢
    rw [b2, bA 5 (by decide)]
    exact h5
  · unfold NmC at h6 ⊢
    rw [aN]
    exact h6
  · unfold NmM at h7 ⊢
    rw [bA 3 (by decide), bA 4 (by decide)]
    exact h7
theorem RT0.mv {X : TX} {sC sM sC' sM' : StT} (h : RT0 X sC sM) (a : FRC sC sC') {d : Nat} (b : FRM d sM sM') : RT0 X sC' sM' := by
  obtain ⟨h1, h2, h3, h4⟩ := h
  refine ⟨?_, ?_, by rw [a.1 1 (by decide)]; exact h3, by rw [b.1 9 (by decide)]; exact h4⟩
  · unfold TxC at h1 ⊢
    rw [a.1 0 (by decide), a.2.1 1 (by decide)]
    exact h1
  · unfold TxM at h2 ⊢
    rw [b.1 3 (by decide), b.2.1 6 (by decide)]
    exact h2
