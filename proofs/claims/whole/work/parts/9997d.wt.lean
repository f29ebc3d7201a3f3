/-! ===== the trees of worlds that the search finds ===== -/
/-- lowest class's row, class's root, lowest and end of reference's rows, reference's root, how many -/
abbrev WN : Type := Nat × Nat × Nat × Nat × Nat × Nat
def sumT (L : List WN) : Nat := (L.map (fun p => p.2.2.2.2.2)).sum
/-- the same children, one behind the other -/
def CHN (sC sM : StT) : Int32 → Int32 → List WN → Prop
  | x, y, [] => x = -1 ∧ y = -1
  | x, y, p :: l => x = nI p.2.1 ∧ y = nI p.2.2.2.2.1 ∧ CHN sC sM (sC.2.1 27 p.2.1) (sM.2.1 31 p.2.2.2.2.1) l
def WT (sC sM : StT) : Nat → WN → Prop
  | 0, _ => False
  | h + 1, p => p.1 ≤ p.2.1 ∧ p.2.1 < 2000 ∧ p.2.2.1 ≤ p.2.2.2.2.1 ∧ p.2.2.2.2.1 < p.2.2.2.1 ∧ p.2.2.2.1 ≤ 2100 ∧ sC.2.1 25 p.2.1 = sM.2.1 32 p.2.2.2.2.1 ∧ sC.2.1 28 p.2.1 = nI p.2.2.2.2.2 ∧ p.2.2.2.2.2 + p.1 ≤ p.2.1 + 1 ∧ ∃ L : List WN, p.2.2.2.2.2 = 1 + sumT L ∧ CHN sC sM (sC.2.1 26 p.2.1) (sM.2.1 29 p.2.2.2.2.1) L ∧ ∀ k, k ∈ L → p.1 ≤ k.1 ∧ k.2.1 < p.2.1 ∧ p.2.2.1 ≤ k.2.2.1 ∧ k.2.2.2.1 ≤ p.2.2.2.1 ∧ (p.2.2.2.2.1 < k.2.2.1 ∨ k.2.2.2.1 ≤ p.2.2.2.2.1) ∧ sC.2.1 25 p.2.1 ||| sC.2.1 25 k.2.1 = sC.2.1 25 k.2.1 ∧ WT sC sM h k
theorem WT.bd {sC sM : StT} {h : Nat} {p : WN} (a : WT sC sM h p) : p.1 ≤ p.2.1 ∧ p.2.1 < 2000 ∧ p.2.2.1 ≤ p.2.2.2.2.1 ∧ p.2.2.2.2.1 < p.2.2.2.1 ∧ p.2.2.2.1 ≤ 2100 ∧ sC.2.1 25 p.2.1 = sM.2.1 32 p.2.2.2.2.1 ∧ sC.2.1 28 p.2.1 = nI p.2.2.2.2.2 ∧ p.2.2.2.2.2 + p.1 ≤ p.2.1 + 1 := by
  cases h with
  | zero => exact a.elim
  | succ h => exact ⟨a.1, a.2.1, a.2.2.1, a.2.2.2.1, a.2.2.2.2.1, a.2.2.2.2.2.1, a.2.2.2.2.2.2.1, a.2.2.2.2.2.2.2.1⟩
theorem CHN.mv {sC sM sC' sM' : StT} : ∀ {L : List WN} {x y : Int32}, CHN sC sM x y L → (∀ k, k ∈ L → sC'.2.1 27 k.2.1 = sC.2.1 27 k.2.1 ∧ sM'.2.1 31 k.2.2.2.2.1 = sM.2.1 31 k.2.2.2.2.1) → CHN sC' sM' x y L := by
  intro L
  induction L with
  | nil => intro x y a _; exact a
  | cons p l ih =>
    intro x y a hk
    have := hk p (List.mem_cons_self ..)
    refine ⟨a.1, a.2.1, ?_⟩
    rw [this.1, this.2]
    exact ih a.2.2 (fun k hk2 => hk k (List.mem_cons_of_mem _ hk2))
/-- a tree stays what it is while nothing in it but its root's next is written -/
theorem WT.mv {sC sM sC' sM' : StT} : ∀ {h h' : Nat} {p : WN}, WT sC sM h p → h ≤ h' → (∀ j i, (j = 25 ∨ j = 26 ∨ j = 28) → p.1 ≤ i → i ≤ p.2.1 → sC'.2.1 j i = sC.2.1 j i) → (∀ i, p.1 ≤ i → i < p.2.1 → sC'.2.1 27 i = sC.2.1 27 i) → (∀ j i, (j = 29 ∨ j = 32) → p.2.2.1 ≤ i → i < p.2.2.2.1 → sM'.2.1 j i = sM.2.1 j i) → (∀ i, p.2.2.1 ≤ i → i < p.2.2.2.1 → i ≠ p.2.2.2.2.1 → sM'.2.1 31 i = sM.2.1 31 i) → WT sC' sM' h' p := by
  intro h
  induction h with
  | zero => intro h' p a; exact a.elim
  | succ h ih =>
    intro h' p a hh c1 c2 m1 m2
    obtain ⟨h', rfl⟩ : ∃ z, h' = z + 1 := ⟨h' - 1, by omega⟩
    obtain ⟨a1, a2, a3, a4, a5, a6, a7, a8, L, b1, b2, b3⟩ := a
    have C := fun j hj => c1 j p.2.1 hj a1 (Nat.le_refl _)
    refine ⟨a1, a2, a3, a4, a5, by rw [C 25 (by decide), m1 32 _ (by decide) a3 a4]; exact a6, by rw [C 28 (by decide)]; exact a7, a8, L, b1, ?_, fun k hk => ?_⟩
    · rw [C 26 (by decide), m1 29 _ (by decide) a3 a4]
      refine b2.mv (fun k hk => ?_)
      obtain ⟨x1, x2, x3, x4, x5, x6, x7⟩ := b3 k hk
      have kb := x7.bd
      exact ⟨c2 _ (by omega) x2, m2 _ (by omega) (by omega) (by omega)⟩
    · obtain ⟨x1, x2, x3, x4, x5, x6, x7⟩ := b3 k hk
      have kb := x7.bd
      refine ⟨x1, x2, x3, x4, x5, by rw [C 25 (by decide), c1 25 k.2.1 (by decide) (by omega) (by omega)]; exact x6, ih x7 (by omega) (fun j i hj h1 h2 => c1 j i hj (by omega) (by omega)) (fun i h1 h2 => c2 i (by omega) (by omega)) (fun j i hj h1 h2 => m1 j i hj (by omega) (by omega)) (fun i h1 h2 h3 => m2 i (by omega) (by omega) (by omega))⟩
/-- the children found so far at one level: bC, bM where the level began, nC, nM how many worlds there were when it was last here; mk what the level forces -/
def PL (sC sM : StT) (e bC bM nC nM : Nat) (mk : Int32) (L : List WN) : Prop :=
  bC + sumT L ≤ nC ∧ nC ≤ 2000 ∧ nM ≤ 2100 ∧ bM ≤ nM ∧
  (∀ k, k ∈ L → bC ≤ k.1 ∧ k.2.1 < nC ∧ bM ≤ k.2.2.1 ∧ k.2.2.2.1 ≤ nM ∧ mk ||| sC.2.1 25 k.2.1 = sC.2.1 25 k.2.1 ∧ ∃ h, WT sC sM h k) ∧
  ((L = [] ∧ sC.2.1 29 e = -1 ∧ sC.2.1 30 e = -1 ∧ sM.2.1 28 e = -1) ∨ ∃ (l : List WN) (k : WN) (w : Nat), L = l ++ [k] ∧ bM ≤ w ∧ w < nM ∧ (∀ p, p ∈ L → w < p.2.2.1 ∨ p.2.2.2.1 ≤ w) ∧ CHN sC sM (sC.2.1 29 e) (sM.2.1 29 w) L ∧ sC.2.1 30 e = nI k.2.1 ∧ sM.2.1 30 w = nI k.2.2.2.2.1 ∧ sM.2.1 28 e = nI w ∧ (sM.2.1 32 w = mk ∧ sM.2.1 31 w = -1) ∧ ∀ p, p ∈ l → p.2.1 < k.1 ∧ p.2.2.2.1 ≤ k.2.2.1)
theorem PL.gr {sC sM sC' sM' : StT} {e bC bM nC nM : Nat} {mk : Int32} {L : List WN} (h : PL sC sM e bC bM nC nM mk L) (hC : ∀ j i, 24 < j → j < 29 → i < nC → sC'.2.1 j i = sC.2.1 j i) (hC2 : ∀ j, (j = 29 ∨ j = 30) → sC'.2.1 j e = sC.2.1 j e) (hM : ∀ j i, 28 < j → j < 33 → i < nM → sM'.2.1 j i = sM.2.1 j i) (hM2 : sM'.2.1 28 e = sM.2.1 28 e) : PL sC' sM' e bC bM nC nM mk L := by
  obtain ⟨h1, h2, h3, h4, h5, h6⟩ := h
  refine ⟨h1, h2, h3, h4, fun k hk => ?_, ?_⟩
  · obtain ⟨a1, a2, a3, a4, a5, hh, a6⟩ := h5 k hk
    have kb := a6.bd
    refine ⟨a1, a2, a3, a4, by rw [hC 25 _ (by decide) (by decide) a2]; exact a5, hh, a6.mv (Nat.le_refl _) (fun j i hj x y => hC j i (by omega) (by omega) (by omega)) (fun i x y => hC 27 i (by decide) (by decide) (by omega)) (fun j i hj x y => hM j i (by omega) (by omega) (by omega)) (fun i x y _ => hM 31 i (by decide) (by decide) (by omega))⟩
  · rw [hC2 29 (by decide), hC2 30 (by decide), hM2]
    rcases h6 with z | ⟨l, k, w, b1, b2, b3, b4, b5, b6, b7, b8, b9, b10⟩
    · exact Or.inl z
    · refine Or.inr ⟨l, k, w, b1, b2, b3, b4, ?_, b6, by rw [hM 30 w (by decide) (by decide) b3]; exact b7, b8, by rw [hM 32 w (by decide) (by decide) b3, hM 31 w (by decide) (by decide) b3]; exact b9, b10⟩
      rw [hM 29 w (by decide) (by decide) b3]
      refine b5.mv (fun k hk => ?_)
      obtain ⟨a1, a2, a3, a4, a5, hh, a6⟩ := h5 k hk
      have kb := a6.bd
      exact ⟨hC 27 _ (by decide) (by decide) a2, hM 31 _ (by decide) (by decide) (by omega)⟩
theorem sumT_app (L : List WN) (k : WN) : sumT (L ++ [k]) = sumT L + k.2.2.2.2.2 := by
  unfold sumT; rw [List.map_append, List.sum_append]; simp
/-- one more at the end of a chain -/
theorem CHN.app {sC sM sC' sM' : StT} {k k' : WN} : ∀ {l : List WN} {x y : Int32}, CHN sC sM x y (l ++ [k]) → (∀ p, p ∈ l → sC'.2.1 27 p.2.1 = sC.2.1 27 p.2.1 ∧ sM'.2.1 31 p.2.2.2.2.1 = sM.2.1 31 p.2.2.2.2.1) → sC'.2.1 27 k.2.1 = nI k'.2.1 → sM'.2.1 31 k.2.2.2.2.1 = nI k'.2.2.2.2.1 → sC'.2.1 27 k'.2.1 = -1 → sM'.2.1 31 k'.2.2.2.2.1 = -1 → CHN sC' sM' x y (l ++ [k] ++ [k']) := by
  intro l
  induction l with
  | nil => intro x y a _ h1 h2 h3 h4; exact ⟨a.1, a.2.1, h1, h2, h3, h4⟩
  | cons p l ih =>
    intro x y a hp h1 h2 h3 h4
    have := hp p (List.mem_cons_self ..)
    refine ⟨a.1, a.2.1, ?_⟩
    rw [this.1, this.2]
    exact ih a.2.2 (fun q hq => hp q (List.mem_cons_of_mem _ hq)) h1 h2 h3 h4
theorem hasU {n : Nat} {s : StT} {N w : Nat} (h : s.1 18 = nI N) (hN : N ≤ 2000) (hw : w < N) : f_X4_has n s (nI w) = some (1, s) := by
  unfold f_X4_has
  rw [if_neg (nI_nneg (by omega)), h, if_neg (fun e => absurd ((nI_leI (by omega) (by omega)).mp e) (by omega)), if_neg (show ¬ (2000 : Int32) ≤ nI w from fun e => absurd ((nI_leI (a := 2000) (by omega) (by omega)).mp e) (by omega))]
theorem hasU_m1 (n : Nat) (s : StT) : f_X4_has n s (-1) = some (0, s) := by
  unfold f_X4_has; rw [if_pos (by decide)]
/-- the class takes a child -/
theorem adoptC {n : Nat} {s : StT} {N e c : Nat} (h : s.1 18 = nI N) (hN : N ≤ 2000) (hc : c < N) (he : e < 200) : (s.2.1 30 e = -1 → f_X4_adopt n s (nI e) (nI c) = some (uA (uA s 29 (nI e) (nI c)) 30 (nI e) (nI c))) ∧ ∀ w, w < N → s.2.1 30 e = nI w → f_X4_adopt n s (nI e) (nI c) = some (uA (uA s 27 (nI w) (nI c)) 30 (nI e) (nI c)) := by
  have e1 : ¬ nI e < (0 : Int32) := nI_nneg (by omega)
  have e2 : ¬ (200 : Int32) ≤ nI e := fun x => absurd ((nI_leI (a := 200) (by omega) (by omega)).mp x) (by omega)
  refine ⟨fun hl => ?_, fun w hw hl => ?_⟩
  · unfold f_X4_adopt
    rw [if_neg e1, if_neg e2, hasU h hN hc, Option.bind_some]
    simp only []
    rw [if_neg (by decide), inB_nI he (by omega), if_pos rfl, nI_cl (by omega), hl, hasU_m1, Option.bind_some]
    simp only [if_true]
  · unfold f_X4_adopt
    rw [if_neg e1, if_neg e2, hasU h hN hc, Option.bind_some]
    simp only []
    rw [if_neg (by decide), inB_nI he (by omega), if_pos rfl, nI_cl (by omega), hl, hasU h hN hw, Option.bind_some]
    simp only []
    rw [if_neg (by decide), hl, inB_nI (show w < 2000 by omega) (by omega)]
    simp only [if_true]
/-- the reference adds a child -/
theorem addCh {n : Nat} {s : StT} {w m : Nat} (hw : w < 2100) : (s.2.1 29 w = -1 → f_X12_addChild n s (nI w) (nI m) = some (uA (uA s 29 (nI w) (nI m)) 30 (nI w) (nI m))) ∧ ∀ a b, a < 2 ^ 31 → b < 2100 → s.2.1 29 w = nI a → s.2.1 30 w = nI b → f_X12_addChild n s (nI w) (nI m) = some (uA (uA s 31 (nI b) (nI m)) 30 (nI w) (nI m)) := by
  refine ⟨fun h => ?_, fun a b ha hb h1 h2 => ?_⟩
  · unfold f_X12_addChild
    rw [inB_nI hw (by omega), if_pos rfl, nI_cl (by omega), h, if_neg (by decide), if_pos rfl, if_pos rfl]
  · unfold f_X12_addChild
    rw [inB_nI hw (by omega), if_pos rfl, nI_cl (by omega), h1, if_pos (nI_nn ha), if_pos rfl, h2, inB_nI hb (by omega), if_pos rfl, if_pos rfl]
/-- a child more, where there were some -/
theorem PL.more {n : Nat} {sC sM : StT} {e bC bM nC nM nC' nM' : Nat} {mk : Int32} {L : List WN} {k : WN} {h : Nat} (hP : PL sC sM e bC bM nC nM mk L) (hL : L ≠ []) (he : e < 200) (hk : WT sC sM h k) (k1 : nC ≤ k.1) (k2 : k.2.1 < nC') (k3 : nM ≤ k.2.2.1) (k4 : k.2.2.2.1 ≤ nM') (k5 : mk ||| sC.2.1 25 k.2.1 = sC.2.1 25 k.2.1) (k6 : sC.2.1 27 k.2.1 = -1) (k7 : sM.2.1 31 k.2.2.2.2.1 = -1) (c18 : sC.1 18 = nI nC') (hnC : nC' ≤ 2000) (hnM : nM' ≤ 2100) :
    ∃ w sC' sM', sM.2.1 28 e = nI w ∧ f_X4_adopt n sC (nI e) (nI k.2.1) = some sC' ∧ f_X12_addChild n sM (nI w) (nI k.2.2.2.2.1) = some sM' ∧ PL sC' sM' e bC bM nC' nM' mk (L ++ [k]) ∧ sC'.1 = sC.1 ∧ (∀ j, j ≠ 27 → j ≠ 30 → sC'.2.1 j = sC.2.1 j) ∧ (∀ i, i < bC → sC'.2.1 27 i = sC.2.1 27 i) ∧ (∀ i, i ≠ e → sC'.2.1 30 i = sC.2.1 30 i) ∧ sC'.2.2 = sC.2.2 ∧ sM'.1 = sM.1 ∧ (∀ j, j ≠ 30 → j ≠ 31 → sM'.2.1 j = sM.2.1 j) ∧ (∀ j i, i < bM → sM'.2.1 j i = sM.2.1 j i) ∧ sM'.2.2 = sM.2.2 := by
  obtain ⟨h1, h2, h3, h4, h5, h6⟩ := hP
  have kb := hk.bd
  rcases h6 with ⟨z, _⟩ | ⟨l, q, w, b1, b2, b3, b4, b5, b6, b7, b8, b9, b10⟩
  · exact absurd z hL
  · have hq := h5 q (by rw [b1]; exact List.mem_append_right _ (List.mem_singleton.mpr rfl))
    obtain ⟨q1, q2, q3, q4, q5, qh, q6⟩ := hq
    have qb := q6.bd
    have hfirst : ∃ a, a < 2 ^ 31 ∧ sM.2.1 29 w = nI a := by
      rw [b1] at b5
      cases hl : l with
      | nil => rw [hl] at b5; exact ⟨_, by omega, b5.2.1⟩
      | cons p l' =>
        rw [hl] at b5
        have hp := h5 p (by rw [b1, hl]; exact List.mem_cons_self ..)
        obtain ⟨_, _, _, _, _, ph, p6⟩ := hp
        have pb := p6.bd
        exact ⟨_, by omega, b5.2.1⟩
    obtain ⟨a, ha, h29⟩ := hfirst
    refine ⟨w, _, _, b8, (adoptC c18 hnC k2 he).2 q.2.1 (by omega) b6, (addCh (by omega)).2 a q.2.2.2.2.1 ha (by omega) h29 b7, ?_, rfl, ?_, ?_, ?_, rfl, rfl, ?_, ?_, rfl⟩
    · -- the new list
      have cc : ∀ j i, j ≠ 27 → j ≠ 30 → (uA (uA sC 27 (nI q.2.1) (nI k.2.1)) 30 (nI e) (nI k.2.1)).2.1 j i = sC.2.1 j i := fun j i x y => by simp only [uA_21]; rw [if_neg y, if_neg x]
      have c27 : ∀ i, i ≠ q.2.1 → (uA (uA sC 27 (nI q.2.1) (nI k.2.1)) 30 (nI e) (nI k.2.1)).2.1 27 i = sC.2.1 27 i := fun i hi => by
        simp only [uA_21, if_neg (show ¬ (27 : Nat) = 30 by decide), if_true, upd_j, nI_cl (show q.2.1 < 2 ^ 31 by omega)]; rw [if_neg hi]
      have mm : ∀ j i, j ≠ 30 → j ≠ 31 → (uA (uA sM 31 (nI q.2.2.2.2.1) (nI k.2.2.2.2.1)) 30 (nI w) (nI k.2.2.2.2.1)).2.1 j i = sM.2.1 j i := fun j i x y => by simp only [uA_21]; rw [if_neg x, if_neg y]
      have m31 : ∀ i, i ≠ q.2.2.2.2.1 → (uA (uA sM 31 (nI q.2.2.2.2.1) (nI k.2.2.2.2.1)) 30 (nI w) (nI k.2.2.2.2.1)).2.1 31 i = sM.2.1 31 i := fun i hi => by
        simp only [uA_21, if_neg (show ¬ (31 : Nat) = 30 by decide), if_true, upd_j, nI_cl (show q.2.2.2.2.1 < 2 ^ 31 by omega)]; rw [if_neg hi]
      have sep : ∀ p, p ∈ l → p.2.1 < q.1 ∧ p.2.2.2.1 ≤ q.2.2.1 := b10
      have hmv : ∀ p : WN, (p.2.1 = q.2.1 ∨ q.2.1 < p.1 ∨ p.2.1 < q.1) → (p.2.2.2.2.1 = q.2.2.2.2.1 ∨ q.2.2.2.1 ≤ p.2.2.1 ∨ p.2.2.2.1 ≤ q.2.2.1) → ∀ hh, WT sC sM hh p → WT (uA (uA sC 27 (nI q.2.1) (nI k.2.1)) 30 (nI e) (nI k.2.1)) (uA (uA sM 31 (nI q.2.2.2.2.1) (nI k.2.2.2.2.1)) 30 (nI w) (nI k.2.2.2.2.1)) hh p := by
        intro p hp1 hp2 hh hw
        have pb := hw.bd
        exact hw.mv (Nat.le_refl _) (fun j i hj _ _ => cc j i (by omega) (by omega)) (fun i x y => c27 i (by omega)) (fun j i hj _ _ => mm j i (by omega) (by omega)) (fun i x y z => m31 i (by omega))
      refine ⟨by rw [sumT_app]; omega, hnC, hnM, by omega, fun p hp => ?_, Or.inr ⟨L, k, w, rfl, b2, by omega, fun p hp => ?_, ?_, ?_, ?_, ?_, ?_, fun p hp => ?_⟩⟩
      · rcases List.mem_append.mp hp with hp | hp
        · obtain ⟨p1, p2, p3, p4, p5, ph, p6⟩ := h5 p hp
          refine ⟨p1, by omega, p3, by omega, by rw [cc 25 _ (by decide) (by decide)]; exact p5, ph, hmv p ?_ ?_ ph p6⟩
          · rw [b1] at hp
            rcases List.mem_append.mp hp with hp | hp
            · exact Or.inr (Or.inr (sep p hp).1)
            · rw [List.mem_singleton.mp hp]; exact Or.inl rfl
          · rw [b1] at hp
            rcases List.mem_append.mp hp with hp | hp
            · exact Or.inr (Or.inr (sep p hp).2)
            · rw [List.mem_singleton.mp hp]; exact Or.inl rfl
        · rw [List.mem_singleton.mp hp]
          exact ⟨by omega, k2, by omega, k4, by rw [cc 25 _ (by decide) (by decide)]; exact k5, h, hmv k (Or.inr (Or.inl (by omega))) (Or.inr (Or.inl (by omega))) h hk⟩
      · rcases List.mem_append.mp hp with hp | hp
        · exact b4 p hp
        · rw [List.mem_singleton.mp hp]; left; omega
      · rw [cc 29 _ (by decide) (by decide), mm 29 _ (by decide) (by decide)]
        rw [b1] at b5 ⊢
        refine b5.app (fun p hp => ?_) ?_ ?_ ?_ ?_
        · have pp := sep p hp
          obtain ⟨p1, p2, p3, p4, p5, ph, p6⟩ := h5 p (by rw [b1]; exact List.mem_append_left _ hp)
          have pb := p6.bd
          exact ⟨c27 _ (by omega), m31 _ (by omega)⟩
        · simp only [uA_21, if_neg (show ¬ (27 : Nat) = 30 by decide), if_true, upd_j, nI_cl (show q.2.1 < 2 ^ 31 by omega)]
        · simp only [uA_21, if_neg (show ¬ (31 : Nat) = 30 by decide), if_true, upd_j, nI_cl (show q.2.2.2.2.1 < 2 ^ 31 by omega)]
        · rw [c27 _ (by omega)]; exact k6
        · rw [m31 _ (by omega)]; exact k7
      · simp only [uA_21, if_true, upd_j, nI_cl (show e < 2 ^ 31 by omega)]
      · simp only [uA_21, if_true, upd_j, nI_cl (show w < 2 ^ 31 by omega)]
      · rw [mm 28 _ (by decide) (by decide)]; exact b8
      · have qw := b4 q (by rw [b1]; exact List.mem_append_right _ (List.mem_singleton.mpr rfl))
        rw [mm 32 _ (by decide) (by decide), m31 _ (by omega)]; exact b9
      · obtain ⟨p1, p2, p3, p4, p5, ph, p6⟩ := h5 p hp
        exact ⟨by omega, by omega⟩
    · intro j x y; simp only [uA_21]; rw [if_neg y, if_neg x]
    · intro i hi; simp only [uA_21, if_neg (show ¬ (27 : Nat) = 30 by decide), if_true, upd_j, nI_cl (show q.2.1 < 2 ^ 31 by omega)]; rw [if_neg (by omega)]
    · intro i hi; simp only [uA_21, if_true, if_neg (show ¬ (30 : Nat) = 27 by decide), upd_j, nI_cl (show e < 2 ^ 31 by omega)]; rw [if_neg hi]
    · intro j x y; simp only [uA_21]; rw [if_neg x, if_neg y]
    · intro j i hi
      simp only [uA_21]
      by_cases c1 : j = 30
      · rw [if_pos c1, upd_j, nI_cl (by omega), if_neg (by omega), if_neg (by omega)]
      · rw [if_neg c1]
        by_cases c2 : j = 31
        · rw [if_pos c2, upd_j, nI_cl (by omega), if_neg (by omega)]
        · rw [if_neg c2]
