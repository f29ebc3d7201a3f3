/-! ===== a level's first child; a level that has failed ===== -/
theorem PL.first {n : Nat} (hn : 100000 ≤ n) {sC sM : StT} {t : FT} {vn z g ar : Nat} {fm tr md : Nat → Nat} {e bC bM nC nM nC' nM' : Nat} {mk : Int32} {k : WN} {h : Nat} (hP : PL sC sM e bC bM nC nM mk []) (he : e < 200) (hk : WT sC sM h k) (k1 : nC ≤ k.1) (k2 : k.2.1 < nC') (k3 : nM ≤ k.2.2.1) (k4 : k.2.2.2.1 ≤ nM') (k5 : mk ||| sC.2.1 25 k.2.1 = sC.2.1 25 k.2.1) (k6 : sC.2.1 27 k.2.1 = -1) (k7 : sM.2.1 31 k.2.2.2.2.1 = -1) (c18 : sC.1 18 = nI nC') (hnC : nC' ≤ 2000) (m30 : sM.1 30 = nI nM') (hnM : nM' < 2100) (hM : MF sM t) (hw : WFt t vn) (hrow : RM sM e z fm tr md g ar) (hb : ∀ i, i < z → fm i < t.1) (hmk : mk = msk t fm z) :
    ∃ sC' s1 s2, f_X4_adopt n sC (nI e) (nI k.2.1) = some sC' ∧ f_X12_newWorld n sM (nI e) = some (nI nM', s1) ∧ f_X12_addChild n (uA s1 28 (nI e) (nI nM')) (nI nM') (nI k.2.2.2.2.1) = some s2 ∧ PL sC' s2 e bC bM nC' (nM' + 1) mk [k] ∧ sC'.1 = sC.1 ∧ (∀ j, j ≠ 29 → j ≠ 30 → sC'.2.1 j = sC.2.1 j) ∧ (∀ j i, i ≠ e → sC'.2.1 j i = sC.2.1 j i) ∧ sC'.2.2 = sC.2.2 ∧ s2.1 30 = nI (nM' + 1) ∧ (∀ j, j ≠ 30 → s2.1 j = sM.1 j) ∧ (∀ j, (j < 28 ∨ 32 < j) → s2.2.1 j = sM.2.1 j) ∧ (∀ i, i ≠ e → s2.2.1 28 i = sM.2.1 28 i) ∧ (∀ j i, 28 < j → j < 33 → i < nM' → s2.2.1 j i = sM.2.1 j i) ∧ s2.2.2 = sM.2.2 := by
  obtain ⟨h1, h2, h3, h4, h5, h6⟩ := hP
  have kb := hk.bd
  obtain ⟨s1, w1, w2, w3, w4, w5, w6, w7, w8, w9, w10⟩ := newW hn hM hw hrow (by omega) hb m30 hnM
  rcases h6 with ⟨_, f29, f30, f28⟩ | ⟨l, q, w, b1, _⟩
  · generalize hs2 : uA (uA (uA s1 28 (nI e) (nI nM')) 29 (nI nM') (nI k.2.2.2.2.1)) 30 (nI nM') (nI k.2.2.2.2.1) = s2
    have sF : s2.1 = s1.1 := by rw [← hs2]; rfl
    have sA : ∀ j, (j < 28 ∨ 30 < j) → s2.2.1 j = s1.2.1 j := fun j hj => by rw [← hs2]; simp only [uA_21]; rw [if_neg (by omega), if_neg (by omega), if_neg (by omega)]
    have s28 : ∀ i, s2.2.1 28 i = if i = e then nI nM' else s1.2.1 28 i := fun i => by
      rw [← hs2]; simp only [uA_21, if_neg (show ¬ (28 : Nat) = 30 by decide), if_neg (show ¬ (28 : Nat) = 29 by decide), if_true, upd_j, nI_cl (show e < 2 ^ 31 by omega)]
    have s29 : ∀ i, s2.2.1 29 i = if i = nM' then nI k.2.2.2.2.1 else s1.2.1 29 i := fun i => by
      rw [← hs2]; simp only [uA_21, if_neg (show ¬ (29 : Nat) = 30 by decide), if_neg (show ¬ (29 : Nat) = 28 by decide), if_true, upd_j, nI_cl (show nM' < 2 ^ 31 by omega)]
    have s30 : ∀ i, s2.2.1 30 i = if i = nM' then nI k.2.2.2.2.1 else s1.2.1 30 i := fun i => by
      rw [← hs2]; simp only [uA_21, if_neg (show ¬ (30 : Nat) = 29 by decide), if_neg (show ¬ (30 : Nat) = 28 by decide), if_true, upd_j, nI_cl (show nM' < 2 ^ 31 by omega)]
    have hold : ∀ j i, 28 < j → j < 33 → i < nM' → s2.2.1 j i = sM.2.1 j i := fun j i x y z => by
      rcases (show j = 29 ∨ j = 30 ∨ 30 < j by omega) with rfl | rfl | hj
      · rw [s29, if_neg (by omega)]; exact w5 29 i x y (by omega)
      · rw [s30, if_neg (by omega)]; exact w5 30 i x y (by omega)
      · rw [sA j (by omega)]; exact w5 j i x y (by omega)
    have cc : ∀ j i, j ≠ 29 → j ≠ 30 → (uA (uA sC 29 (nI e) (nI k.2.1)) 30 (nI e) (nI k.2.1)).2.1 j i = sC.2.1 j i := fun j i x y => by simp only [uA_21]; rw [if_neg y, if_neg x]
    have hkw : WT (uA (uA sC 29 (nI e) (nI k.2.1)) 30 (nI e) (nI k.2.1)) s2 h k := hk.mv (Nat.le_refl _) (fun j i hj _ _ => cc j i (by omega) (by omega)) (fun i _ _ => cc 27 i (by decide) (by decide)) (fun j i hj x y => hold j i (by omega) (by omega) (by omega)) (fun i x y _ => hold 31 i (by decide) (by decide) (by omega))
    refine ⟨_, s1, s2, (adoptC c18 hnC k2 he).1 f30, w1, ?_, ⟨?_, hnC, by omega, by omega, fun p hp => ?_, Or.inr ⟨[], k, nM', rfl, by omega, by omega, fun p hp => ?_, ?_, ?_, ?_, ?_, ⟨?_, ?_⟩, fun p hp => absurd hp (List.not_mem_nil)⟩⟩, rfl, ?_, ?_, rfl, ?_, ?_, ?_, ?_, hold, ?_⟩
    · rw [(addCh (s := uA s1 28 (nI e) (nI nM')) hnM).1 (by simp only [uA_21, if_neg (show ¬ (29 : Nat) = 28 by decide)]; exact w6), hs2]
    · have : sumT [k] = k.2.2.2.2.2 := by unfold sumT; simp
      have h1' : bC ≤ nC := by have := h1; unfold sumT at this; simp at this; exact this
      omega
    · rw [List.mem_singleton.mp hp]
      have h1' : bC ≤ nC := by have := h1; unfold sumT at this; simp at this; exact this
      exact ⟨by omega, k2, by omega, by omega, by rw [cc 25 _ (by decide) (by decide)]; exact k5, h, hkw⟩
    · rw [List.mem_singleton.mp hp]; right; omega
    · refine ⟨?_, ?_, ?_, ?_⟩
      · simp only [uA_21, if_neg (show ¬ (29 : Nat) = 30 by decide), if_true, upd_j, nI_cl (show e < 2 ^ 31 by omega)]
      · rw [s29, if_pos rfl]
      · rw [cc 27 _ (by decide) (by decide)]; exact k6
      · rw [hold 31 _ (by decide) (by decide) (by omega)]; exact k7
    · simp only [uA_21, if_true, upd_j, nI_cl (show e < 2 ^ 31 by omega)]
    · rw [s30, if_pos rfl]
    · rw [s28, if_pos rfl]
    · rw [sA 32 (by decide), w9]; exact hmk.symm
    · rw [sA 31 (by decide)]; exact w8
    · intro j x y; simp only [uA_21]; rw [if_neg y, if_neg x]
    · intro j i hi
      simp only [uA_21]
      by_cases c1 : j = 30
      · rw [if_pos c1, upd_j, nI_cl (by omega), if_neg hi, if_neg (by omega)]
      · rw [if_neg c1]
        by_cases c2 : j = 29
        · rw [if_pos c2, upd_j, nI_cl (by omega), if_neg hi]
        · rw [if_neg c2]
    · rw [sF]; exact w2
    · intro j hj; rw [sF]; exact w3 j hj
    · intro j hj; rw [sA j (by omega)]; exact w4 j (by omega)
    · intro i hi; rw [s28, if_neg hi, w4 28 (by decide)]
    · rw [← hs2]; exact w10
  · exact absurd b1 (by simp)
/-- a tree that is done: it is nobody's child yet -/
def FW (sC sM : StT) (bC bM nC nM : Nat) (mk : Int32) (p : WN) : Prop := (∃ h, WT sC sM h p) ∧ bC ≤ p.1 ∧ p.2.1 < nC ∧ bM ≤ p.2.2.1 ∧ p.2.2.2.1 ≤ nM ∧ mk ||| sC.2.1 25 p.2.1 = sC.2.1 25 p.2.1 ∧ sC.2.1 27 p.2.1 = -1 ∧ sM.2.1 31 p.2.2.2.2.1 = -1
theorem len_sum {sC sM : StT} : ∀ (L : List WN), (∀ k, k ∈ L → ∃ h, WT sC sM h k) → L.length ≤ sumT L := by
  intro L
  induction L with
  | nil => intro _; simp
  | cons p l ih =>
    intro hk
    have h1 := ih (fun k hk2 => hk k (List.mem_cons_of_mem _ hk2))
    obtain ⟨h, hp⟩ := hk p (List.mem_cons_self ..)
    have hT : 1 ≤ p.2.2.2.2.2 := by
      cases h with
      | zero => exact hp.elim
      | succ h => obtain ⟨_, _, _, _, _, _, _, _, L', b1, _⟩ := hp; omega
    have es : sumT (p :: l) = p.2.2.2.2.2 + sumT l := by unfold sumT; simp
    rw [es]
    simp only [List.length_cons]
    omega
theorem PL.fin {n : Nat} (hn : 100000 ≤ n) {sC sM sM' : StT} {e bC bM nC nM nC' nM' m nM2 : Nat} {mk : Int32} {L : List WN} (hP : PL sC sM e bC bM nC nM mk L) (he : e < 200) (c1 : nC ≤ nC') (c2 : nC' < 2000) (c18 : sC.1 18 = nI nC') (c3 : nM ≤ nM') (hm2 : nM2 ≤ 2100) (hm3 : nM' ≤ nM2)
    (hm : (L = [] ∧ m = nM' ∧ m < nM2 ∧ sM'.2.1 29 m = -1 ∧ sM'.2.1 32 m = mk ∧ sM'.2.1 31 m = -1) ∨ (L ≠ [] ∧ sM.2.1 28 e = nI m ∧ m < 2 ^ 31)) (hM : ∀ j i, 28 < j → j < 33 → i < nM → sM'.2.1 j i = sM.2.1 j i) :
    f_X4_add n sC (nI e) mk = some (nI nC', aU sC nC' e mk (1 + sumT L)) ∧ FW (aU sC nC' e mk (1 + sumT L)) sM' bC bM (nC' + 1) nM2 mk (bC, nC', bM, nM2, m, 1 + sumT L) := by
  obtain ⟨h1, h2, h3, h4, h5, h6⟩ := hP
  obtain ⟨H, hH⟩ := WT.all L (fun k hk => by obtain ⟨_, _, _, _, _, hh⟩ := h5 k hk; exact hh)
  have hlen := len_sum (sC := sC) (sM := sM) L (fun k hk => by obtain ⟨_, _, _, _, _, hh⟩ := h5 k hk; exact hh)
  have hch : ∃ y, CHN sC sM (sC.2.1 29 e) y L := by
    rcases h6 with ⟨rfl, f29, _⟩ | ⟨l, k, w, b1, b2, b3, b4, b5, _⟩
    · exact ⟨-1, f29, rfl⟩
    · exact ⟨_, b5⟩
  obtain ⟨y, hch⟩ := hch
  refine ⟨?_, ⟨H + 1, ?_⟩, Nat.le_refl _, Nat.lt_succ_self _, Nat.le_refl _, Nat.le_refl _, ?_, ?_, ?_⟩
  · unfold f_X4_add
    rw [if_neg (nI_nneg (by omega)), if_neg (show ¬ (200 : Int32) ≤ nI e from fun x => absurd ((nI_leI (a := 200) (by omega) (by omega)).mp x) (by omega)), c18, if_neg (nI_nneg (by omega)), if_pos (show nI nC' < (2000 : Int32) from (nI_ltI (b := 2000) (by omega) (by omega)).mpr c2), inB_nI he (by omega), if_pos rfl, nI_cl (by omega)]
    exact addU_loop c18 c2 he L _ y 1 0 n hch (fun k hk => by
      obtain ⟨x1, x2, _⟩ := h5 k hk
      exact ⟨by omega, (hH k hk).bd.2.2.2.2.2.2.1⟩) (by omega) (by omega)
  · have aC : ∀ j i, 24 < j → j < 29 → i < nC' → (aU sC nC' e mk (1 + sumT L)).2.1 j i = sC.2.1 j i := fun j i x y z => by
      unfold aU
      simp only [uF_2, uA_21]
      have e' : ∀ (g : Nat → Int32) (v : Int32), upd g (nI nC').toNatClampNeg v i = g i := fun g v => by rw [upd_j, nI_cl (by omega), if_neg (by omega)]
      repeat' split
      all_goals simp only [e']
    have rows : (aU sC nC' e mk (1 + sumT L)).2.1 25 nC' = mk ∧ (aU sC nC' e mk (1 + sumT L)).2.1 26 nC' = sC.2.1 29 e ∧ (aU sC nC' e mk (1 + sumT L)).2.1 28 nC' = nI (1 + sumT L) := by
      unfold aU
      simp only [uF_2, uA_21, if_true, if_neg (show ¬ (25 : Nat) = 26 by decide), if_neg (show ¬ (25 : Nat) = 27 by decide), if_neg (show ¬ (25 : Nat) = 28 by decide), if_neg (show ¬ (26 : Nat) = 27 by decide), if_neg (show ¬ (26 : Nat) = 28 by decide), upd_j, nI_cl (show nC' < 2 ^ 31 by omega)]
      exact ⟨trivial, trivial, trivial⟩
    have hmv : ∀ k, k ∈ L → WT (aU sC nC' e mk (1 + sumT L)) sM' H k := fun k hk => by
      obtain ⟨x1, x2, x3, x4, x5, _⟩ := h5 k hk
      have kb := (hH k hk).bd
      exact (hH k hk).mv (Nat.le_refl _) (fun j i hj p1 p2 => aC j i (by omega) (by omega) (by omega)) (fun i p1 p2 => aC 27 i (by decide) (by decide) (by omega)) (fun j i hj p1 p2 => hM j i (by omega) (by omega) (by omega)) (fun i p1 p2 _ => hM 31 i (by decide) (by decide) (by omega))
    have hsum : bC ≤ nC := by omega
    have hroot : bM ≤ m ∧ m < nM2 ∧ sM'.2.1 32 m = mk ∧ (∀ k, k ∈ L → m < k.2.2.1 ∨ k.2.2.2.1 ≤ m) ∧ CHN (aU sC nC' e mk (1 + sumT L)) sM' (sC.2.1 29 e) (sM'.2.1 29 m) L := by
      rcases hm with ⟨rfl, rfl, y1, y2, y3, y4⟩ | ⟨y1, y2, y3⟩
      · rcases h6 with ⟨_, f29, _⟩ | ⟨l, q, w, b1, _⟩
        · exact ⟨by omega, y1, y3, fun k hk => absurd hk (List.not_mem_nil), f29, y2⟩
        · exact absurd b1 (by simp)
      · rcases h6 with ⟨z, _⟩ | ⟨l, k, w, b1, b2, b3, b4, b5, b6, b7, b8, b9, b10⟩
        · exact absurd z y1
        · have : m = w := nI_inj y3 (by omega) (y2.symm.trans b8)
          subst this
          refine ⟨b2, by omega, by rw [hM 32 _ (by decide) (by decide) b3]; exact b9.1, b4, ?_⟩
          rw [hM 29 _ (by decide) (by decide) b3]
          refine b5.mv (fun k hk => ?_)
          obtain ⟨x1, x2, x3, x4, x5, _⟩ := h5 k hk
          have kb := (hH k hk).bd
          exact ⟨aC 27 _ (by decide) (by decide) (by omega), hM 31 _ (by decide) (by decide) (by omega)⟩
    obtain ⟨r1, r2, r3, r4, r5⟩ := hroot
    refine ⟨by show bC ≤ nC'; omega, c2, r1, r2, hm2, by show (aU sC nC' e mk (1 + sumT L)).2.1 25 nC' = sM'.2.1 32 m; rw [rows.1, r3], rows.2.2, by show 1 + sumT L + bC ≤ nC' + 1; omega, L, rfl, ?_, fun k hk => ?_⟩
    · show CHN _ sM' ((aU sC nC' e mk (1 + sumT L)).2.1 26 nC') (sM'.2.1 29 m) L
      rw [rows.2.1]; exact r5
    · obtain ⟨x1, x2, x3, x4, x5, _⟩ := h5 k hk
      refine ⟨x1, by show k.2.1 < nC'; omega, x3, by show k.2.2.2.1 ≤ nM2; omega, r4 k hk, ?_, hmv k hk⟩
      show (aU sC nC' e mk (1 + sumT L)).2.1 25 nC' ||| _ = _
      rw [rows.1, aC 25 _ (by decide) (by decide) (by omega)]; exact x5
  · show mk ||| (aU sC nC' e mk (1 + sumT L)).2.1 25 nC' = (aU sC nC' e mk (1 + sumT L)).2.1 25 nC'
    have : (aU sC nC' e mk (1 + sumT L)).2.1 25 nC' = mk := by
      unfold aU
      simp only [uF_2, uA_21, if_true, if_neg (show ¬ (25 : Nat) = 26 by decide), if_neg (show ¬ (25 : Nat) = 27 by decide), if_neg (show ¬ (25 : Nat) = 28 by decide), upd_j, nI_cl (show nC' < 2 ^ 31 by omega)]
    rw [this]; exact Int32.or_self
  · show (aU sC nC' e mk (1 + sumT L)).2.1 27 nC' = -1
    unfold aU
    simp only [uF_2, uA_21, if_true, if_neg (show ¬ (27 : Nat) = 28 by decide), upd_j, nI_cl (show nC' < 2 ^ 31 by omega)]
  · show sM'.2.1 31 m = -1
    rcases hm with ⟨_, _, _, _, _, y4⟩ | ⟨y1, y2, y3⟩
    · exact y4
    · rcases h6 with ⟨z, _⟩ | ⟨l, k, w, b1, b2, b3, b4, b5, b6, b7, b8, b9, b10⟩
      · exact absurd z y1
      · have : m = w := nI_inj y3 (by omega) (y2.symm.trans b8)
        subst this
        rw [hM 31 _ (by decide) (by decide) b3]; exact b9.2
