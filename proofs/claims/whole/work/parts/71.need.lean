/-! ===== the parts, in the reference ===== -/
def AgN (s s' : StT) : Prop := (∀ j, s'.1 j = s.1 j) ∧ (∀ j, j ≠ 55 → s'.2.1 j = s.2.1 j) ∧ s'.2.2 = s.2.2
theorem AgN.rf (s : StT) : AgN s s := ⟨fun _ => rfl, fun _ _ => rfl, rfl⟩
theorem AgN.tr {a b c : StT} (h : AgN a b) (g : AgN b c) : AgN a c := ⟨fun j => (g.1 j).trans (h.1 j), fun j hj => (g.2.1 j hj).trans (h.2.1 j hj), g.2.2.trans h.2.2⟩
theorem AgN.up (s : StT) (i v : Int32) : AgN s (uA s 55 i v) := ⟨fun _ => rfl, fun j hj => by simp only [uA_21, hj, if_false], rfl⟩
theorem MF.ag {s s' : StT} {t : FT} (h0 : s'.1 0 = s.1 0) (g0 : s'.2.1 0 = s.2.1 0) (g1 : s'.2.1 1 = s.2.1 1) (g2 : s'.2.1 2 = s.2.1 2) (h : MF s t) : MF s' t := by
  unfold MF at *
  rw [h0, g0, g1, g2]
  exact h
theorem MF.agN {s s' : StT} {t : FT} (a : AgN s s') (h : MF s t) : MF s' t := MF.ag (a.1 0) (a.2.1 0 (by decide)) (a.2.1 1 (by decide)) (a.2.1 2 (by decide)) h
theorem nz1 : vp_nar .boolean (1 : Int32) = 1 := by decide
theorem nz0 : vp_nar .boolean (0 : Int32) = 0 := by decide
theorem mks_low {t : FT} {vn f d k : Nat} (hw : WFt t vn) (h : f - d ≤ 1) : mks t f (d + 1) k = mks t f d k := by
  rw [mks]
  rcases (show f - d = 0 ∨ f - d = 1 by omega) with e | e
  · rw [e, hw.2.2.1.1]; simp
  · rw [e, hw.2.2.2.1.1]; simp
theorem mks_end {t : FT} {vn f k : Nat} (hw : WFt t vn) : ∀ (e d : Nat), f - d ≤ 1 → mks t f (d + e) k = mks t f d k := by
  intro e
  induction e with
  | zero => intro d _; rfl
  | succ e ih => intro d h; rw [← Nat.add_assoc, mks_low hw (by omega), ih d h]
theorem need_loop {n : Nat} {sM : StT} {t : FT} {vn f : Nat} (hM : MF sM t) (hw : WFt t vn) (hf : f < t.1) : ∀ (m fu : Nat) (s : StT), m ≤ f → m < fu → AgN sM s → (∀ k, k < t.1 → s.2.1 55 k = mI (mks t f (f - m) k)) → ∃ s' : StT, f_X12_need_32 n fu s (nI m) = some s' ∧ AgN sM s' ∧ ∀ k, k < t.1 → s'.2.1 55 k = mI (prt t f k) := by
  have hb := hw.2.1
  intro m
  induction m with
  | zero =>
    intro fu s hm hfu hA hs
    obtain ⟨fu, rfl⟩ : ∃ q, fu = q + 1 := ⟨fu - 1, by omega⟩
    rw [f_X12_need_32, if_pos (show nI 0 ≤ (1 : Int32) by decide)]
    refine ⟨s, rfl, hA, fun k hk => ?_⟩
    rw [hs k hk]
    unfold prt
    rw [← mks_end hw 1 (f - 0) (by omega), show f - 0 + 1 = f + 1 by omega]
  | succ m ih =>
    intro fu s hm hfu hA hs
    obtain ⟨fu, rfl⟩ : ∃ q, fu = q + 1 := ⟨fu - 1, by omega⟩
    have hMs := hM.agN hA
    rw [f_X12_need_32]
    by_cases c1 : m + 1 ≤ 1
    · rw [if_pos (show nI (m + 1) ≤ (1 : Int32) from (nI_leI (b := 1) (by omega) (by omega)).mpr c1)]
      refine ⟨s, rfl, hA, fun k hk => ?_⟩
      rw [hs k hk]
      unfold prt
      rw [← mks_end hw (f + 1 - (f - (m + 1))) (f - (m + 1)) (by omega), show f - (m + 1) + (f + 1 - (f - (m + 1))) = f + 1 by omega]
    · rw [if_neg (show ¬ nI (m + 1) ≤ (1 : Int32) from fun e => c1 ((nI_leI (b := 1) (by omega) (by omega)).mp e)), inB_nI (show m + 1 < 2000 by omega) (by omega), if_pos rfl, nI_cl (by omega), hs (m + 1) (by omega)]
      have e1 : nI (m + 1) + -1 = nI m := pk_m1 m
      have hd : f - m = (f - (m + 1)) + 1 := by omega
      have hat : f - (f - (m + 1)) = m + 1 := by omega
      have same : mks t f (f - (m + 1)) (m + 1) = false ∨ t.2.1 (m + 1) < 3 → (∀ k, k < t.1 → s.2.1 55 k = mI (mks t f (f - m) k)) := by
        intro hq k hk
        rw [hs k hk, hd, mks, hat]
        rcases hq with hq | hq
        · rw [hq]; simp
        · simp [show ¬ 3 ≤ t.2.1 (m + 1) by omega]
      have bd := hw.bd (f := m + 1) (by omega)
      rw [e1]
      by_cases c : mks t f (f - (m + 1)) (m + 1) = true
      · rw [c, show mI true = 1 from rfl, if_neg (by decide), inB_nI (show m + 1 < 4200 by omega) (by omega), if_pos rfl, (hMs.2 (m + 1) (by omega)).1]
        by_cases k3 : t.2.1 (m + 1) < 3
        · rw [if_pos (show nI (t.2.1 (m + 1)) < (3 : Int32) from (nI_ltI (b := 3) (by omega) (by omega)).mpr k3)]
          exact ih fu s (by omega) (by omega) hA (same (Or.inr k3))
        · have hp : t.2.2.1 (m + 1) < m + 1 ∧ t.2.2.2 (m + 1) < m + 1 := by
            rcases hw.2.2.2.2.2.1 (m + 1) (by omega) (by omega) with ⟨q1, -, -⟩ | ⟨-, -, q3, q4⟩
            · omega
            · exact ⟨q3, q4⟩
          rw [if_neg (show ¬ nI (t.2.1 (m + 1)) < (3 : Int32) from fun e => k3 ((nI_ltI (b := 3) (by omega) (by omega)).mp e))]
          simp only [if_true, (hMs.2 (m + 1) (by omega)).2.1, uA_21, show (2 : Nat) ≠ 55 by decide, if_false, (hMs.2 (m + 1) (by omega)).2.2, inB_nI (show t.2.2.1 (m + 1) < 2000 by omega) (by omega), inB_nI (show t.2.2.2 (m + 1) < 2000 by omega) (by omega), nz1]
          refine ih fu _ (by omega) (by omega) ((hA.tr (AgN.up s _ _)).tr (AgN.up _ _ _)) (fun k hk => ?_)
          simp only [uA_21, if_true, upd_j, nI_cl (show t.2.2.1 (m + 1) < 2 ^ 31 by omega), nI_cl (show t.2.2.2 (m + 1) < 2 ^ 31 by omega)]
          rw [hs k hk, hd, mks, hat, c]
          by_cases z1 : k = t.2.2.2 (m + 1)
          · simp [z1, mI, show 3 ≤ t.2.1 (m + 1) by omega]
          · by_cases z2 : k = t.2.2.1 (m + 1)
            · simp [z1, z2, mI, show 3 ≤ t.2.1 (m + 1) by omega]
            · simp [z1, z2]
      · have c' : mks t f (f - (m + 1)) (m + 1) = false := by simpa using c
        rw [c', show mI false = 0 from rfl, if_pos rfl]
        exact ih fu s (by omega) (by omega) hA (same (Or.inl c'))
theorem need_zero {n : Nat} {sM : StT} {f fn : Nat} (h0 : sM.1 0 = nI fn) (hfn : fn ≤ 2000) (hf : f < fn) : ∀ (d k fu : Nat) (s : StT), k + d = fn → d < fu → AgN sM s → (∀ i, i < k → s.2.1 55 i = 0) → ∃ s' : StT, f_X12_need_2 n fu s (nI f) (nI k) = f_X12_need_32 n n (uA s' 55 (nI f) 1) (nI f) ∧ AgN sM s' ∧ ∀ i, i < fn → s'.2.1 55 i = 0 := by
  intro d
  induction d with
  | zero =>
    intro k fu s hk hfu hA hs
    obtain ⟨fu, rfl⟩ : ∃ q, fu = q + 1 := ⟨fu - 1, by omega⟩
    rw [f_X12_need_2, hA.1, h0, if_pos ((nI_leI (by omega) (by omega)).mpr (by omega)), inB_nI (show f < 2000 by omega) (by omega), if_pos rfl, nz1]
    exact ⟨s, rfl, hA, fun i hi => hs i (by omega)⟩
  | succ d ih =>
    intro k fu s hk hfu hA hs
    obtain ⟨fu, rfl⟩ : ∃ q, fu = q + 1 := ⟨fu - 1, by omega⟩
    rw [f_X12_need_2, hA.1, h0, if_neg (fun e => absurd ((nI_leI (by omega) (by omega)).mp e) (by omega)), inB_nI (show k < 2000 by omega) (by omega), if_pos rfl, nI_1, nz0]
    refine ih (k + 1) fu _ (by omega) (by omega) (hA.tr (AgN.up _ _ _)) (fun i hi => ?_)
    simp only [uA_21, if_true, upd_j, nI_cl (show k < 2 ^ 31 by omega)]
    by_cases e : i = k
    · simp [e]
    · simp [e, hs i (by omega)]
theorem needM {n : Nat} (hn : 100000 ≤ n) {sM : StT} {t : FT} {vn f : Nat} (hM : MF sM t) (hw : WFt t vn) (hf : f < t.1) : ∃ s' : StT, f_X12_need n sM (nI f) = some s' ∧ AgN sM s' ∧ ∀ k, k < t.1 → s'.2.1 55 k = mI (prt t f k) := by
  have hb := hw.2.1
  unfold f_X12_need
  obtain ⟨s1, e1, a1, z1⟩ := need_zero (n := n) hM.1 hb hf t.1 0 n sM (by omega) (by omega) (AgN.rf _) (fun i hi => by omega)
  rw [nI_0] at e1
  rw [e1]
  exact need_loop (n := n) hM hw hf f n (uA s1 55 (nI f) 1) (Nat.le_refl _) (by omega) (a1.tr (AgN.up _ _ _)) (fun k hk => by
    simp only [uA_21, if_true, upd_j, nI_cl (show f < 2 ^ 31 by omega), Nat.sub_self, mks]
    by_cases e : k = f
    · simp [e, mI]
    · simp [e, mI, z1 k hk])
