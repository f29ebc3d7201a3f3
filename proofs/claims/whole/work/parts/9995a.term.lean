/-! ===== terms that are read: the class numbers them behind their parts, the reference before them ===== -/
abbrev LTR : List Nat := [76, 65, 80, 70, 83, 73, 74, 67, 88]
def pk (k : Nat) : Nat := if k = 67 then 3 else if k = 65 then 2 else if k = 80 then 2 else 1
def lam (k : Nat) : Nat := if k = 76 then 1 else 0
def csb (k : Nat) : Nat := if k = 67 then 1 else 0
/-- class's node i and reference's node u are the same term under m hypotheses, of depth below h; e is behind its last row -/
def TR (sC sM : StT) (F : Nat) : Nat → Nat → Nat → Nat → Nat → Prop
  | 0, _, _, _, _ => False
  | h + 1, i, u, m, e => u < e ∧ e ≤ 1600 ∧ i < 3000 ∧ m < 100 ∧ sM.2.1 41 u = nI m ∧
    ((sC.2.1 7 i = 104 ∧ sM.2.1 40 u = 72 ∧ e = u + 1 ∧ ∃ v, v < m ∧ sC.2.1 8 i = nI v ∧ sM.2.1 42 u = nI v)
    ∨ (sC.2.1 7 i = 84 ∧ sM.2.1 40 u = 84 ∧ e = u + 1)
    ∨ ∃ k i1 x1, k ∈ LTR ∧ sC.2.1 7 i = nI k ∧ sM.2.1 40 u = nI k ∧ i1 < i ∧ sC.2.1 8 i = nI i1 ∧ sM.2.1 42 u = nI (u + 1) ∧ TR sC sM F h i1 (u + 1) (m + lam k) x1 ∧
      ((pk k = 1 ∧ x1 = e ∧ (k = 76 → ∃ f, f < F ∧ sC.2.1 9 i = nI f ∧ sM.2.1 44 u = nI f))
      ∨ (2 ≤ pk k ∧ ∃ i2 x2, i2 < i ∧ sC.2.1 9 i = nI i2 ∧ sM.2.1 43 u = nI x1 ∧ TR sC sM F h i2 x1 (m + csb k) x2 ∧
        ((pk k = 2 ∧ x2 = e) ∨ (pk k = 3 ∧ ∃ i3, i3 < i ∧ sC.2.1 10 i = nI i3 ∧ sM.2.1 44 u = nI x2 ∧ TR sC sM F h i3 x2 (m + csb k) e)))))
theorem TR.lt {sC sM : StT} {F h i u m e : Nat} (a : TR sC sM F h i u m e) : u < e ∧ e ≤ 1600 ∧ i < 3000 ∧ m < 100 := by
  cases h with
  | zero => exact a.elim
  | succ h => exact ⟨a.1, a.2.1, a.2.2.1, a.2.2.2.1⟩
theorem TR.mv {sC sM sC' sM' : StT} {F F' : Nat} (hF : F ≤ F') : ∀ {h i u m e : Nat}, TR sC sM F h i u m e → (∀ j r, 6 < j → j < 11 → r ≤ i → sC'.2.1 j r = sC.2.1 j r) → (∀ j r, 39 < j → j < 45 → u ≤ r → r < e → sM'.2.1 j r = sM.2.1 j r) → TR sC' sM' F' h i u m e := by
  intro h
  induction h with
  | zero => intro i u m e a _ _; exact a.elim
  | succ h ih =>
    intro i u m e a hC hM
    obtain ⟨a1, a2, a3, a4, a5, a6⟩ := a
    refine ⟨a1, a2, a3, a4, by rw [hM 41 u (by decide) (by decide) (Nat.le_refl _) a1]; exact a5, ?_⟩
    rw [hC 7 i (by decide) (by decide) (Nat.le_refl _), hC 8 i (by decide) (by decide) (Nat.le_refl _), hC 9 i (by decide) (by decide) (Nat.le_refl _), hC 10 i (by decide) (by decide) (Nat.le_refl _), hM 40 u (by decide) (by decide) (Nat.le_refl _) a1, hM 42 u (by decide) (by decide) (Nat.le_refl _) a1, hM 43 u (by decide) (by decide) (Nat.le_refl _) a1, hM 44 u (by decide) (by decide) (Nat.le_refl _) a1]
    rcases a6 with b | b | ⟨k, i1, x1, b1, b2, b3, b4, b5, b6, b7, b8⟩
    · exact Or.inl b
    · exact Or.inr (Or.inl b)
    · refine Or.inr (Or.inr ⟨k, i1, x1, b1, b2, b3, b4, b5, b6, ?_, ?_⟩)
      · have hx : x1 ≤ e := by
          rcases b8 with ⟨_, c, _⟩ | ⟨_, i2, x2, _, _, _, c, d⟩
          · omega
          · have := c.lt
            rcases d with ⟨_, d⟩ | ⟨_, i3, _, _, _, d⟩
            · omega
            · have := d.lt; omega
        exact ih b7 (fun j r h1 h2 h3 => hC j r h1 h2 (by omega)) (fun j r h1 h2 h3 h4 => hM j r h1 h2 (by omega) (by omega))
      · have q1 := b7.lt
        rcases b8 with ⟨c1, c2, c3⟩ | ⟨c1, i2, x2, c2, c3, c4, c5, c6⟩
        · refine Or.inl ⟨c1, c2, fun hk => ?_⟩
          obtain ⟨f, d1, d2, d3⟩ := c3 hk
          exact ⟨f, by omega, d2, d3⟩
        · have q2 := c5.lt
          refine Or.inr ⟨c1, i2, x2, c2, c3, c4, ?_, ?_⟩
          · have hx : x2 ≤ e := by
              rcases c6 with ⟨_, d⟩ | ⟨_, i3, _, _, _, d⟩
              · omega
              · have := d.lt; omega
            exact ih c5 (fun j r h1 h2 h3 => hC j r h1 h2 (by omega)) (fun j r h1 h2 h3 h4 => hM j r h1 h2 (by omega) (by omega))
          · rcases c6 with d | ⟨d1, i3, d2, d3, d4, d5⟩
            · exact Or.inl d
            · exact Or.inr ⟨d1, i3, d2, d3, d4, ih d5 (fun j r h1 h2 h3 => hC j r h1 h2 (by omega)) (fun j r h1 h2 h3 h4 => hM j r h1 h2 (by omega) (by omega))⟩
/-- what the reading of a term leaves as it is -/
def FTC (N : Nat) (s s' : StT) : Prop := (∀ j, (j < 2 ∨ 11 < j) → s'.1 j = s.1 j) ∧ (∀ j, (j < 2 ∨ 11 < j) → s'.2.1 j = s.2.1 j) ∧ (∀ j r, 6 < j → j < 12 → r < N → s'.2.1 j r = s.2.1 j r) ∧ (∀ j, j ≠ 0 → s'.2.2.1 j = s.2.2.1 j) ∧ ∀ j, j ≠ 0 → s'.2.2.2 j = s.2.2.2 j
def FTM (d u : Nat) (s s' : StT) : Prop := (∀ j, (j = 1 ∨ j = 3 ∨ j = 9 ∨ j = 12 ∨ (13 < j ∧ j ≠ 17 ∧ j ≠ 34)) → s'.1 j = s.1 j) ∧ (∀ j, ((5 < j ∧ j < 10) ∨ (13 < j ∧ j < 40) ∨ 47 < j) → s'.2.1 j = s.2.1 j) ∧ (∀ j r, 44 < j → j < 48 → r < d → s'.2.1 j r = s.2.1 j r) ∧ (∀ j r, 39 < j → j < 45 → r < u → s'.2.1 j r = s.2.1 j r) ∧ s'.2.2 = s.2.2
theorem FRC.ft {s s' : StT} (h : FRC s s') (N : Nat) : FTC N s s' := ⟨fun j hj => h.1 j (by omega), fun j hj => h.2.1 j (by omega), fun j r h1 _ _ => by rw [h.2.1 j (by omega)], h.2.2.1, h.2.2.2⟩
theorem FRM.ft {e : Nat} {s s' : StT} (h : FRM e s s') (d u : Nat) : FTM d u s s' := ⟨fun j hj => h.1 j (by omega), fun j hj => h.2.1 j (by omega), fun j r h1 _ _ => by rw [h.2.1 j (by omega)], fun j r h1 _ _ => by rw [h.2.1 j (by omega)], h.2.2.2⟩
theorem FTC.tr {N : Nat} {s1 s2 s3 : StT} (a : FTC N s1 s2) (b : FTC N s2 s3) : FTC N s1 s3 := ⟨fun j h => (b.1 j h).trans (a.1 j h), fun j h => (b.2.1 j h).trans (a.2.1 j h), fun j r h1 h2 h3 => (b.2.2.1 j r h1 h2 h3).trans (a.2.2.1 j r h1 h2 h3), fun j h => (b.2.2.2.1 j h).trans (a.2.2.2.1 j h), fun j h => (b.2.2.2.2 j h).trans (a.2.2.2.2 j h)⟩
theorem FTM.tr {d u : Nat} {s1 s2 s3 : StT} (a : FTM d u s1 s2) (b : FTM d u s2 s3) : FTM d u s1 s3 := ⟨fun j h => (b.1 j h).trans (a.1 j h), fun j h => (b.2.1 j h).trans (a.2.1 j h), fun j r h1 h2 h3 => (b.2.2.1 j r h1 h2 h3).trans (a.2.2.1 j r h1 h2 h3), fun j r h1 h2 h3 => (b.2.2.2.1 j r h1 h2 h3).trans (a.2.2.2.1 j r h1 h2 h3), b.2.2.2.2.trans a.2.2.2.2⟩
theorem FTC.lo {N N' : Nat} {s s' : StT} (a : FTC N' s s') (h : N ≤ N') : FTC N s s' := ⟨a.1, a.2.1, fun j r h1 h2 h3 => a.2.2.1 j r h1 h2 (by omega), a.2.2.2.1, a.2.2.2.2⟩
theorem FTM.lo {d d' u u' : Nat} {s s' : StT} (a : FTM d' u' s s') (h : d ≤ d') (h2 : u ≤ u') : FTM d u s s' := ⟨a.1, a.2.1, fun j r h1 h2 h3 => a.2.2.1 j r h1 h2 (by omega), fun j r h1 h2 h3 => a.2.2.2.1 j r h1 h2 (by omega), a.2.2.2.2⟩
theorem FTC.fo {N : Nat} {s s' : StT} (h : FTC N s s') : FOC s s' := ⟨fun j hj => h.1 j (by omega), fun j hj => h.2.1 j (by omega), h.2.2.2.1, h.2.2.2.2⟩
theorem FTM.fo {d u : Nat} {s s' : StT} (h : FTM d u s s') : FOM s s' := ⟨fun j hj => h.1 j (by omega), fun j hj => h.2.1 j (by omega), h.2.2.2.2⟩
/-- a row of the reference's terms is written, a row of what is open, a number -/
theorem FTM.ar {d u e : Nat} (s : StT) (k : Nat) (i x : Int32) (hk : (39 < k ∧ k < 45 ∧ u ≤ e) ∨ (44 < k ∧ k < 48 ∧ d ≤ e)) (hi : i = nI e) (he : e < 2 ^ 31) : FTM d u s (uA s k i x) := by
  refine ⟨fun _ _ => rfl, fun j h => ?_, fun j r h1 h2 h3 => ?_, fun j r h1 h2 h3 => ?_, rfl⟩
  · simp only [uA_21]; rw [if_neg (by omega)]
  · simp only [uA_21]
    by_cases c : j = k
    · rw [if_pos c, upd_j, hi, nI_cl he, if_neg (by omega)]
    · rw [if_neg c]
  · simp only [uA_21]
    by_cases c : j = k
    · rw [if_pos c, upd_j, hi, nI_cl he, if_neg (by omega)]
    · rw [if_neg c]
theorem FTM.rc (d u : Nat) (s : StT) (x : Int32) : FTM d u s (uF s 34 x) := ⟨fun j h => by simp only [uF_1]; rw [if_neg (by omega)], fun _ _ => rfl, fun _ _ _ _ _ => rfl, fun _ _ _ _ _ => rfl, rfl⟩
/-- the reference's new term -/
def nT (s : StT) (u : Nat) (k x : Int32) : StT := uF (uA (uA (uA (uA (uA s 40 (nI u) k) 41 (nI u) x) 42 (nI u) (-1)) 43 (nI u) (-1)) 44 (nI u) (-1)) 34 (nI (u + 1))
theorem newT {n : Nat} {s : StT} {u : Nat} (h : s.1 34 = nI u) (hu : u < 1600) (k x : Int32) : f_X12_newTerm n s k x = some (nI u, nT s u k x) := by
  unfold f_X12_newTerm nT
  simp only [uA_1, h, inB_nI hu (by omega), if_true, uF_1, nI_1, nI_m1]
theorem nT_fr {s : StT} {d u v : Nat} (h : v ≤ u) (hu : u < 1600) (k x : Int32) : FTM d v s (nT s u k x) := by
  unfold nT
  exact (((((FTM.ar s 40 _ _ (by omega) rfl (by omega)).tr (FTM.ar _ 41 _ _ (by omega) rfl (by omega))).tr (FTM.ar _ 42 _ _ (by omega) rfl (by omega))).tr (FTM.ar _ 43 _ _ (by omega) rfl (by omega))).tr (FTM.ar _ 44 _ _ (by omega) rfl (by omega))).tr (FTM.rc _ _ _ _)
theorem nT_40 {s : StT} {u : Nat} (hu : u < 1600) (k x : Int32) : (nT s u k x).2.1 40 u = k ∧ (nT s u k x).2.1 41 u = x := by
  unfold nT
  simp only [uF_2, uA_21, if_true, if_neg (show ¬ (40 : Nat) = 41 by decide), if_neg (show ¬ (40 : Nat) = 42 by decide), if_neg (show ¬ (40 : Nat) = 43 by decide), if_neg (show ¬ (40 : Nat) = 44 by decide), if_neg (show ¬ (41 : Nat) = 42 by decide), if_neg (show ¬ (41 : Nat) = 43 by decide), if_neg (show ¬ (41 : Nat) = 44 by decide), upd_j, nI_cl (show u < 2 ^ 31 by omega)]
  exact ⟨trivial, trivial⟩
/-- the class's new term -/
def aT (s : StT) (N : Nat) (k a b c d : Int32) : StT := uF (uA (uA (uA (uA (uA s 7 (nI N) k) 8 (nI N) a) 9 (nI N) b) 10 (nI N) c) 11 (nI N) d) 8 (nI (N + 1))
theorem addT0 {n : Nat} {s : StT} {N : Nat} (h : s.1 8 = nI N) (hN : N < 3000) (k a b c d : Int32) : f_X7_add_T0 n s k a b c d = some (nI N, aT s N k a b c d) := by
  unfold f_X7_add_T0 aT
  rw [h, if_neg (nI_nneg (by omega)), if_pos (show nI N < (3000 : Int32) from (nI_ltI (b := 3000) (by omega) (by omega)).mpr hN)]
  simp only [inB_nI hN (by omega), if_true, uA_1, h, nI_1]
theorem aT_rows {s : StT} {N : Nat} (hN : N < 3000) (k a b c d : Int32) : (aT s N k a b c d).2.1 7 N = k ∧ (aT s N k a b c d).2.1 8 N = a ∧ (aT s N k a b c d).2.1 9 N = b ∧ (aT s N k a b c d).2.1 10 N = c := by
  unfold aT
  simp only [uF_2, uA_21, if_true, if_neg (show ¬ (7 : Nat) = 8 by decide), if_neg (show ¬ (7 : Nat) = 9 by decide), if_neg (show ¬ (7 : Nat) = 10 by decide), if_neg (show ¬ (7 : Nat) = 11 by decide), if_neg (show ¬ (8 : Nat) = 9 by decide), if_neg (show ¬ (8 : Nat) = 10 by decide), if_neg (show ¬ (8 : Nat) = 11 by decide), if_neg (show ¬ (9 : Nat) = 10 by decide), if_neg (show ¬ (9 : Nat) = 11 by decide), if_neg (show ¬ (10 : Nat) = 11 by decide), upd_j, nI_cl (show N < 2 ^ 31 by omega)]
  exact ⟨trivial, trivial, trivial, trivial⟩
theorem aT_o {s : StT} {N j r : Nat} (hN : N < 3000) (hr : r ≠ N) (k a b c d : Int32) : (aT s N k a b c d).2.1 j r = s.2.1 j r := by
  unfold aT
  simp only [uF_2, uA_21]
  have e : ∀ (g : Nat → Int32) (x : Int32), upd g (nI N).toNatClampNeg x r = g r := fun g x => by rw [upd_j, nI_cl (by omega), if_neg hr]
  repeat' split
  all_goals simp only [e]
theorem aT_fr {s : StT} {N : Nat} (hN : N < 3000) (k a b c d : Int32) : FTC N s (aT s N k a b c d) := by
  refine ⟨fun j hj => ?_, fun j hj => ?_, fun j r _ _ hr => aT_o hN (by omega) _ _ _ _ _, fun _ _ => rfl, fun _ _ => rfl⟩
  · unfold aT; simp only [uF_1, uA_1]; rw [if_neg (by omega)]
  · unfold aT; simp only [uF_2, uA_21]
    rw [if_neg (by omega), if_neg (by omega), if_neg (by omega), if_neg (by omega), if_neg (by omega)]
/-- a term is made in any state, and nothing else is touched -/
theorem addT0_any (n : Nat) (s : StT) (k a b c d : Int32) : ∃ r s', f_X7_add_T0 n s k a b c d = some (r, s') ∧ FTC 0 s s' ∧ (∀ j, j ≠ 8 → s'.1 j = s.1 j) ∧ (∀ j, (j < 7 ∨ 11 < j) → s'.2.1 j = s.2.1 j) ∧ s'.2.2 = s.2.2 := by
  by_cases c0 : s.1 8 < 0
  · refine ⟨-1, s, ?_, (FRC.rf s).ft 0, fun _ _ => rfl, fun _ _ => rfl, rfl⟩
    unfold f_X7_add_T0; rw [if_pos c0]
  · obtain ⟨N, hN, e⟩ := nI_of c0
    by_cases c1 : N < 3000
    · refine ⟨_, _, addT0 e c1 k a b c d, (aT_fr c1 _ _ _ _ _).lo (Nat.zero_le _), fun j hj => ?_, fun j hj => ?_, rfl⟩
      · unfold aT; simp only [uF_1, uA_1]; rw [if_neg hj]
      · unfold aT; simp only [uF_2, uA_21]
        rw [if_neg (by omega), if_neg (by omega), if_neg (by omega), if_neg (by omega), if_neg (by omega)]
    · refine ⟨-1, s, ?_, (FRC.rf s).ft 0, fun _ _ => rfl, fun _ _ => rfl, rfl⟩
      unfold f_X7_add_T0
      rw [e, if_neg (nI_nneg hN), if_neg (show ¬ nI N < (3000 : Int32) from fun z => c1 ((nI_ltI (b := 3000) hN (by omega)).mp z))]
