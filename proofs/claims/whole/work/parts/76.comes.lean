/-! ===== classical: the reference ===== -/
def AgA (a : Nat) (s s' : StT) : Prop := (∀ j, s'.1 j = s.1 j) ∧ (∀ j, j ≠ a → s'.2.1 j = s.2.1 j) ∧ s'.2.2 = s.2.2
theorem AgA.rf (a : Nat) (s : StT) : AgA a s s := ⟨fun _ => rfl, fun _ _ => rfl, rfl⟩
theorem AgA.up {a : Nat} {s s' : StT} (h : AgA a s s') (i v : Int32) : AgA a s (uA s' a i v) := ⟨h.1, fun j hj => by simp only [uA_21, hj, if_false]; exact h.2.1 j hj, h.2.2⟩
theorem i00 : ((0 : Int32) = 0) = True := by simp
theorem comes_step {n fu : Nat} {s : StT} {t : FT} {vn f k a : Nat} {x1 : Int32} (hM : MF s t) (hw : WFt t vn) (hk : k < t.1) (hx : ¬ x1 < nI k) (hm : s.2.1 55 k = 1) (hv : t.2.1 k = 2 → s.2.1 58 (t.2.2.1 k) = nI (ps t f (t.2.2.1 k))) (hi : 3 ≤ t.2.1 k → s.2.1 59 (t.2.2.1 k) = mI (cv t (gA t f a) (t.2.2.1 k)) ∧ s.2.1 59 (t.2.2.2 k) = mI (cv t (gA t f a) (t.2.2.2 k))) : f_X12_comesOut_2 n (fu + 1) s x1 (nI a) (nI k) = f_X12_comesOut_2 n fu (uA s 59 (nI k) (mI (cv t (gA t f a) k))) x1 (nI a) (nI (k + 1)) := by
  have hb := hw.2.1
  have bd := hw.bd hk
  have hMk := hM.2 k hk
  have hc31 : (nI k).toNatClampNeg = k := nI_cl (by omega)
  have hB := inB_nI (show k < 4200 by omega) (by omega)
  have hB2 := inB_nI (show k < 2000 by omega) (by omega)
  have hB3 := inB_nI (show t.2.2.1 k < 2000 by omega) (by omega)
  have hB4 := inB_nI (show t.2.2.2 k < 2000 by omega) (by omega)
  have hc1 : (nI (t.2.2.1 k)).toNatClampNeg = t.2.2.1 k := nI_cl (by omega)
  have hc2 : (nI (t.2.2.2 k)).toNatClampNeg = t.2.2.2 k := nI_cl (by omega)
  rw [f_X12_comesOut_2, if_neg hx, cv_e hw hk]
  rcases (show t.2.1 k = 0 ∨ t.2.1 k = 1 ∨ t.2.1 k = 2 ∨ t.2.1 k = 3 ∨ t.2.1 k = 4 ∨ t.2.1 k = 5 by omega) with c | c | c | c | c | c
  · rw [c] at hMk
    rw [c]
    simp only [hB2, hc31, hm, hB, hMk.1, if_true, i10, if_false, nz1, nz0, nI_1, f_X12_comesOut_45, f_X12_comesOut_76, f_X12_comesOut_122, f_X12_comesOut_138, f_X12_comesOut_154, show ((nI 0 : Int32) < 3) = True from eq_true (by decide), show ((nI 0 : Int32) = 1) = False from eq_false (by decide), show ((nI 0 : Int32) = 2) = False from eq_false (by decide), show ((nI 0 : Int32) = 3) = False from eq_false (by decide), show ((nI 0 : Int32) = 4) = False from eq_false (by decide), show ((nI 0 : Int32) = 5) = False from eq_false (by decide)]
    rfl
  · rw [c] at hMk
    rw [c]
    simp only [hB2, hc31, hm, hB, hMk.1, if_true, i10, if_false, nz1, nz0, nI_1, f_X12_comesOut_45, f_X12_comesOut_76, f_X12_comesOut_122, f_X12_comesOut_138, f_X12_comesOut_154, show ((nI 1 : Int32) < 3) = True from eq_true (by decide), show ((nI 1 : Int32) = 1) = True from eq_true (by decide), show ((nI 1 : Int32) = 2) = False from eq_false (by decide), show ((nI 1 : Int32) = 3) = False from eq_false (by decide), show ((nI 1 : Int32) = 4) = False from eq_false (by decide), show ((nI 1 : Int32) = 5) = False from eq_false (by decide)]
    rfl
  · rw [c] at hMk
    rw [c]
    have hvv := hw.var hk c
    have hvn := hw.2.2.2.2.1
    have hpl : ps t f (t.2.2.1 k) ≤ t.2.2.1 k := cnt_le _ _
    have hB5 := inB_nI (show t.2.2.1 k < 24 by omega) (by omega)
    have hts := tst32s (nI a) (show ps t f (t.2.2.1 k) < 32 by omega)
    rw [b32_nI (by omega)] at hts
    simp only [hB2, hc31, hm, hB, hMk.1, if_true, i10, if_false, nz1, nz0, nI_1, f_X12_comesOut_45, f_X12_comesOut_76, f_X12_comesOut_122, f_X12_comesOut_138, f_X12_comesOut_154, hMk.2.1, hc1, hB5, hv c, hts, show ((nI 2 : Int32) < 3) = True from eq_true (by decide), show ((nI 2 : Int32) = 1) = False from eq_false (by decide), show ((nI 2 : Int32) = 2) = True from eq_true (by decide), show ((nI 2 : Int32) = 3) = False from eq_false (by decide), show ((nI 2 : Int32) = 4) = False from eq_false (by decide), show ((nI 2 : Int32) = 5) = False from eq_false (by decide)]
    by_cases b : a.testBit (ps t f (t.2.2.1 k)) = true
    · simp [b, gA, mI]
    · simp [b, gA, mI]
  · rw [c] at hMk
    rw [c]
    obtain ⟨h1, h2⟩ := hi (by omega)
    generalize cv t (gA t f a) (t.2.2.1 k) = p at h1 ⊢
    generalize cv t (gA t f a) (t.2.2.2 k) = q at h2 ⊢
    cases p <;> cases q <;> simp [mI] at h1 h2 <;> simp [f_X12_comesOut_45, f_X12_comesOut_76, f_X12_comesOut_122, f_X12_comesOut_138, f_X12_comesOut_154, mI, hm, hB, hB2, hB3, hB4, hc31, hMk.1, hMk.2.1, hMk.2.2, hc1, hc2, h1, h2, nz1, nz0, nI_1, show ((nI 3 : Int32) < 3) = False from eq_false (by decide), show ((nI 3 : Int32) = 1) = False from eq_false (by decide), show ((nI 3 : Int32) = 2) = False from eq_false (by decide), show ((nI 3 : Int32) = 3) = True from eq_true (by decide), show ((nI 3 : Int32) = 4) = False from eq_false (by decide), show ((nI 3 : Int32) = 5) = False from eq_false (by decide)]
  · rw [c] at hMk
    rw [c]
    obtain ⟨h1, h2⟩ := hi (by omega)
    generalize cv t (gA t f a) (t.2.2.1 k) = p at h1 ⊢
    generalize cv t (gA t f a) (t.2.2.2 k) = q at h2 ⊢
    cases p <;> cases q <;> simp [mI] at h1 h2 <;> simp [f_X12_comesOut_45, f_X12_comesOut_76, f_X12_comesOut_122, f_X12_comesOut_138, f_X12_comesOut_154, mI, hm, hB, hB2, hB3, hB4, hc31, hMk.1, hMk.2.1, hMk.2.2, hc1, hc2, h1, h2, nz1, nz0, nI_1, show ((nI 4 : Int32) < 3) = False from eq_false (by decide), show ((nI 4 : Int32) = 1) = False from eq_false (by decide), show ((nI 4 : Int32) = 2) = False from eq_false (by decide), show ((nI 4 : Int32) = 3) = False from eq_false (by decide), show ((nI 4 : Int32) = 4) = True from eq_true (by decide), show ((nI 4 : Int32) = 5) = False from eq_false (by decide)]
  · rw [c] at hMk
    rw [c]
    obtain ⟨h1, h2⟩ := hi (by omega)
    generalize cv t (gA t f a) (t.2.2.1 k) = p at h1 ⊢
    generalize cv t (gA t f a) (t.2.2.2 k) = q at h2 ⊢
    cases p <;> cases q <;> simp [mI] at h1 h2 <;> simp [f_X12_comesOut_45, f_X12_comesOut_76, f_X12_comesOut_122, f_X12_comesOut_138, f_X12_comesOut_154, mI, hm, hB, hB2, hB3, hB4, hc31, hMk.1, hMk.2.1, hMk.2.2, hc1, hc2, h1, h2, nz1, nz0, nI_1, show ((nI 5 : Int32) < 3) = False from eq_false (by decide), show ((nI 5 : Int32) = 1) = False from eq_false (by decide), show ((nI 5 : Int32) = 2) = False from eq_false (by decide), show ((nI 5 : Int32) = 3) = False from eq_false (by decide), show ((nI 5 : Int32) = 4) = False from eq_false (by decide), show ((nI 5 : Int32) = 5) = True from eq_true (by decide)]
theorem if_t_t {α : Type} {p : Prop} [Decidable p] (x : α) : (if p then x else x) = x := by split <;> rfl
theorem comesOutM {n : Nat} {sM : StT} {t : FT} {vn f a : Nat} (hM : MF sM t) (hw : WFt t vn) (hf : f < t.1) (mM : ∀ k, k ≤ f → sM.2.1 55 k = mI (prt t f k)) (hN : ∀ v, vms t f (f + 1) v = true → sM.2.1 58 v = nI (ps t f v)) : ∀ (d k fu : Nat) (s : StT), k + d = f + 1 → d < fu → AgA 59 sM s → (∀ i, i < k → prt t f i = true → s.2.1 59 i = mI (cv t (gA t f a) i)) → ∃ s', f_X12_comesOut_2 n fu s (nI f) (nI a) (nI k) = some (mI (cv t (gA t f a) f), s') ∧ AgA 59 sM s' := by
  have hb := hw.2.1
  intro d
  induction d with
  | zero =>
    intro k fu s hk hfu a1 hv
    obtain ⟨fu, rfl⟩ : ∃ q, fu = q + 1 := ⟨fu - 1, by omega⟩
    rw [f_X12_comesOut_2, if_pos ((nI_ltI (by omega) (by omega)).mpr (by omega)), inB_nI (show f < 2000 by omega) (by omega), if_pos rfl, nI_cl (by omega), hv f (by omega) (by unfold prt; exact mks_f t f _), if_pos (by cases cv t (gA t f a) f <;> rfl)]
    exact ⟨s, rfl, a1⟩
  | succ d ih =>
    intro k fu s hk hfu a1 hv
    obtain ⟨fu, rfl⟩ : ∃ q, fu = q + 1 := ⟨fu - 1, by omega⟩
    have c : ¬ nI f < nI k := fun e => absurd ((nI_ltI (by omega) (by omega)).mp e) (by omega)
    have hB := inB_nI (show k < 2000 by omega) (by omega)
    have hm1 : s.2.1 55 k = mI (prt t f k) := by rw [a1.2.1 55 (by decide)]; exact mM k (by omega)
    by_cases p : prt t f k = true
    · have hsM : MF s t := MF.ag (a1.1 0) (a1.2.1 0 (by decide)) (a1.2.1 1 (by decide)) (a1.2.1 2 (by decide)) hM
      rw [comes_step (f := f) (a := a) hsM hw (by omega) c (by rw [hm1, p]; rfl) (fun h2 => by
        rw [a1.2.1 58 (by decide)]
        exact hN _ (by rw [vms_var hw hf (by omega) h2, p]; simp; omega)) (fun h3 => by
        have pp := prt_parts hw hf (by omega) p h3
        have hl := hw.lo (by omega) h3
        exact ⟨hv _ (by omega) pp.1, hv _ (by omega) pp.2⟩)]
      refine ih (k + 1) fu _ (by omega) (by omega) (a1.up _ _) (fun i hi hp => ?_)
      simp only [uA_21, if_true, upd_j, nI_cl (show k < 2 ^ 31 by omega)]
      by_cases e : i = k
      · rw [if_pos e, e]
      · rw [if_neg e]; exact hv i (by omega) hp
    · have p' : prt t f k = false := by simpa using p
      rw [f_X12_comesOut_2, if_neg c, hB, if_pos rfl, nI_cl (by omega), hm1, p', show mI false = 0 from rfl, if_pos rfl, nI_1]
      exact ih (k + 1) fu s (by omega) (by omega) a1 (fun i hi hp => by
        rcases Nat.eq_or_lt_of_le (Nat.lt_succ_iff.mp hi) with e | e
        · rw [e] at hp; exact absurd hp p
        · exact hv i e hp)
theorem MF.agA {a : Nat} {s s' : StT} {t : FT} (g : AgA a s s') (ha : 3 ≤ a) (h : MF s t) : MF s' t := MF.ag (g.1 0) (g.2.1 0 (by omega)) (g.2.1 1 (by omega)) (g.2.1 2 (by omega)) h
theorem clM_loop {n : Nat} (hn : 100000 ≤ n) {sM : StT} {t : FT} {vn f : Nat} (hM : MF sM t) (hw : WFt t vn) (hf : f < t.1) (mM : ∀ k, k ≤ f → sM.2.1 55 k = mI (prt t f k)) (hN : ∀ v, vms t f (f + 1) v = true → sM.2.1 58 v = nI (ps t f v)) (c12 : ps t f vn ≤ 12) : ∀ (d a fu : Nat) (s : StT), a + d = 2 ^ ps t f vn → d < fu → AgA 59 sM s → (∀ i, i < a → cv t (gA t f i) f = true) → ∃ (r : Int32) (s' : StT), f_X12_classical_81 n fu s (nI f) (nI (ps t f vn)) 1 (nI a) = some (r, s') ∧ AgA 59 sM s' ∧ ((r = 1 ∧ ∀ a, a < 2 ^ ps t f vn → cv t (gA t f a) f = true) ∨ (r = 0 ∧ ∃ a, a < 2 ^ ps t f vn ∧ cv t (gA t f a) f = false)) := by
  have hb := hw.2.1
  have hpl := pow_le2 _ (show ps t f vn < 13 by omega)
  intro d
  induction d with
  | zero =>
    intro a fu s hk hfu a1 hv
    obtain ⟨fu, rfl⟩ : ∃ q, fu = q + 1 := ⟨fu - 1, by omega⟩
    rw [f_X12_classical_81, pow_m _ (by omega), if_pos ((nI_leI (by omega) (by omega)).mpr (by omega)), if_neg (by decide)]
    exact ⟨1, s, rfl, a1, Or.inl ⟨rfl, fun i hi => hv i (by omega)⟩⟩
  | succ d ih =>
    intro a fu s hk hfu a1 hv
    obtain ⟨fu, rfl⟩ : ∃ q, fu = q + 1 := ⟨fu - 1, by omega⟩
    have hMs : MF s t := hM.agA a1 (by decide)
    obtain ⟨s', e1, e2⟩ := comesOutM (n := n) (a := a) hMs hw hf (fun k hk => by rw [a1.2.1 55 (by decide)]; exact mM k hk) (fun v hv => by rw [a1.2.1 58 (by decide)]; exact hN v hv) (f + 1) 0 n s (by omega) (by omega) (AgA.rf _ _) (fun i hi => by omega)
    rw [nI_0] at e1
    have e3 : AgA 59 sM s' := ⟨fun j => (e2.1 j).trans (a1.1 j), fun j hj => (e2.2.1 j hj).trans (a1.2.1 j hj), e2.2.2.trans a1.2.2⟩
    rw [f_X12_classical_81, pow_m _ (by omega), if_neg (fun e => absurd ((nI_leI (by omega) (by omega)).mp e) (by omega)), if_neg (by decide)]
    unfold f_X12_comesOut
    rw [e1, Option.bind_some, nI_1]
    by_cases b : cv t (gA t f a) f = true
    · rw [b]
      exact ih (a + 1) fu s' (by omega) (by omega) e3 (fun i hi => by
        rcases Nat.eq_or_lt_of_le (Nat.lt_succ_iff.mp hi) with e | e
        · rw [e]; exact b
        · exact hv i e)
    · have b' : cv t (gA t f a) f = false := by simpa using b
      rw [b', show mI false = 0 from rfl]
      obtain ⟨fu, rfl⟩ : ∃ q, fu = q + 1 := ⟨fu - 1, by omega⟩
      rw [f_X12_classical_81]
      simp only [if_true, if_t_t]
      exact ⟨0, s', rfl, e3, Or.inr ⟨rfl, a, by omega, b'⟩⟩
