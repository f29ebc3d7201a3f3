/-! ===== classical ===== -/
/-- the variables' formulas, as the reference keeps them -/
def VF (sM : StT) (t : FT) (vn : Nat) (vf : Nat → Nat) : Prop := sM.1 2 = nI vn ∧ ∀ v, v < vn → sM.2.1 5 v = nI (vf v) ∧ vf v < t.1 ∧ t.2.1 (vf v) = 2 ∧ t.2.2.1 (vf v) = v
theorem num_loop {n : Nat} {sM : StT} {t : FT} {vn f : Nat} {vf : Nat → Nat} (hV : VF sM t vn vf) (hw : WFt t vn) (hf : f < t.1) (mM : ∀ k, k < t.1 → sM.2.1 55 k = mI (prt t f k)) : ∀ (d v fu : Nat) (s : StT), v + d = vn → d < fu → AgA 58 sM s → (∀ i, i < v → vms t f (f + 1) i = true → s.2.1 58 i = nI (ps t f i)) → ∃ s', f_X12_classical_19 n fu s (nI f) (nI (ps t f v)) (nI v) = (if nI (ps t f vn) ≤ (12 : Int32) then f_X12_classical_81 n n s' (nI f) (nI (ps t f vn)) (1 : Int32) (0 : Int32) else some ((-4 : Int32), s')) ∧ AgA 58 sM s' ∧ ∀ i, vms t f (f + 1) i = true → s'.2.1 58 i = nI (ps t f i) := by
  have hb := hw.2.1
  have hvn := hw.2.2.2.2.1
  intro d
  induction d with
  | zero =>
    intro v fu s hk hfu a1 hv
    obtain ⟨fu, rfl⟩ : ∃ q, fu = q + 1 := ⟨fu - 1, by omega⟩
    rw [f_X12_classical_19, a1.1, hV.1, if_pos ((nI_leI (by omega) (by omega)).mpr (by omega)), show v = vn by omega]
    exact ⟨s, rfl, a1, fun i hi => hv i (by have := vms_bd hw hf hi; omega) hi⟩
  | succ d ih =>
    intro v fu s hk hfu a1 hv
    obtain ⟨fu, rfl⟩ : ∃ q, fu = q + 1 := ⟨fu - 1, by omega⟩
    obtain ⟨h1, h2, h3, h4⟩ := hV.2 v (by omega)
    have h5 : s.2.1 5 v = nI (vf v) := by rw [a1.2.1 5 (by decide)]; exact h1
    have h6 : s.2.1 55 (vf v) = mI (prt t f (vf v)) := by rw [a1.2.1 55 (by decide)]; exact mM _ h2
    have hvm := vms_var hw hf h2 h3
    rw [h4] at hvm
    have hpv : ps t f (v + 1) = ps t f v + if vms t f (f + 1) v = true then 1 else 0 := rfl
    have skip : vms t f (f + 1) v = false → ∃ s', f_X12_classical_19 n fu s (nI f) (nI (ps t f v)) (nI (v + 1)) = (if nI (ps t f vn) ≤ (12 : Int32) then f_X12_classical_81 n n s' (nI f) (nI (ps t f vn)) (1 : Int32) (0 : Int32) else some ((-4 : Int32), s')) ∧ AgA 58 sM s' ∧ ∀ i, vms t f (f + 1) i = true → s'.2.1 58 i = nI (ps t f i) := by
      intro hno
      have := ih (v + 1) fu s (by omega) (by omega) a1 (fun i hi hp => by
        rcases Nat.eq_or_lt_of_le (Nat.lt_succ_iff.mp hi) with e | e
        · rw [e, hno] at hp; exact absurd hp (by decide)
        · exact hv i e hp)
      rw [hpv, hno] at this
      exact this
    rw [f_X12_classical_19, a1.1, hV.1, if_neg (fun e => absurd ((nI_leI (by omega) (by omega)).mp e) (by omega)), inB_nI (show v < 24 by omega) (by omega), if_pos rfl, nI_cl (by omega), h5, nI_1]
    by_cases c : f < vf v
    · rw [if_pos ((nI_ltI (by omega) (by omega)).mpr c)]
      exact skip (by rw [hvm]; simp; omega)
    · rw [if_neg (fun e => c ((nI_ltI (by omega) (by omega)).mp e)), if_pos rfl, inB_nI (show vf v < 2000 by omega) (by omega), if_pos rfl, nI_cl (show vf v < 2 ^ 31 by omega), h6]
      by_cases p : prt t f (vf v) = true
      · rw [p, show mI true = 1 from rfl, if_neg (by decide), if_pos rfl, nI_1]
        have hyes : vms t f (f + 1) v = true := by rw [hvm, p]; simp; omega
        rw [if_pos hyes] at hpv
        rw [← hpv]
        refine ih (v + 1) fu _ (by omega) (by omega) (a1.up _ _) (fun i hi hp => ?_)
        simp only [uA_21, if_true, upd_j, nI_cl (show v < 2 ^ 31 by omega)]
        by_cases e : i = v
        · rw [if_pos e, e]
        · rw [if_neg e]; exact hv i (by omega) hp
      · have p' : prt t f (vf v) = false := by simpa using p
        rw [p', show mI false = 0 from rfl, if_pos rfl]
        exact skip (by rw [hvm, p']; simp)
/-- what classical leaves as it is, in the reference -/
def AgL (s s' : StT) : Prop := (∀ j, s'.1 j = s.1 j) ∧ (∀ j, j ≠ 55 → j ≠ 58 → j ≠ 59 → s'.2.1 j = s.2.1 j) ∧ s'.2.2 = s.2.2
theorem AgL.rf (s : StT) : AgL s s := ⟨fun _ => rfl, fun _ _ _ _ => rfl, rfl⟩
theorem classicM {n : Nat} (hn : 100000 ≤ n) {sM : StT} {t : FT} {vn f : Nat} {vf : Nat → Nat} (hM : MF sM t) (hV : VF sM t vn vf) (hw : WFt t vn) (hf : f < t.1) : ∃ (r : Int32) (s1 s' : StT), f_X12_need n sM (nI f) = some s1 ∧ f_X12_classical_19 n n s1 (nI f) 0 0 = some (r, s') ∧ AgL sM s' ∧ clR t vn f r := by
  have hvn := hw.2.2.2.2.1
  obtain ⟨s1, b1, b2, b3⟩ := needM hn hM hw hf
  have hV1 : VF s1 t vn vf := ⟨by rw [b2.1]; exact hV.1, fun v hv => by rw [b2.2.1 5 (by decide)]; exact hV.2 v hv⟩
  obtain ⟨s2, c1, c2, c3⟩ := num_loop (n := n) hV1 hw hf b3 vn 0 n s1 (by omega) (by omega) (AgA.rf _ _) (fun i hi => by omega)
  rw [show ps t f 0 = 0 from rfl, nI_0] at c1
  have hps : ps t f vn ≤ vn := cnt_le _ _
  have f2 : AgL sM s2 := ⟨fun j => (c2.1 j).trans (b2.1 j), fun j h1 h2 _ => (c2.2.1 j h2).trans (b2.2.1 j h1), c2.2.2.trans b2.2.2⟩
  unfold clR
  by_cases c : ps t f vn ≤ 12
  · rw [if_pos (show nI (ps t f vn) ≤ (12 : Int32) from (nI_leI (b := 12) (by omega) (by omega)).mpr c)] at c1
    simp only [if_pos c]
    have hM2 : MF s2 t := (hM.agN b2).agA c2 (by decide)
    have hpl := pow_le2 _ (show ps t f vn < 13 by omega)
    obtain ⟨r, s', e1, e2, e3⟩ := clM_loop hn hM2 hw hf (fun k hk => by rw [c2.2.1 55 (by decide)]; exact b3 k (by omega)) c3 c (2 ^ ps t f vn) 0 n s2 (by omega) (by omega) (AgA.rf _ _) (fun i hi => by omega)
    rw [nI_0] at e1
    exact ⟨r, s1, s', b1, c1.trans e1, ⟨fun j => (e2.1 j).trans (f2.1 j), fun j h1 h2 h3 => (e2.2.1 j h3).trans (f2.2.1 j h1 h2 h3), e2.2.2.trans f2.2.2⟩, e3⟩
  · rw [if_neg (show ¬ nI (ps t f vn) ≤ (12 : Int32) from fun e => c ((nI_leI (b := 12) (by omega) (by omega)).mp e))] at c1
    simp only [if_neg c]
    exact ⟨_, s1, s2, b1, c1, f2, rfl⟩
theorem op_classical {n : Nat} (hn : 100000 ≤ n) {sC sM : StT} {t : FT} {vn : Nat} {vf : Nat → Nat} (hC : CFt sC t) (hM : MF sM t) (hV : VF sM t vn vf) (hw : WFt t vn) (x : Int32) : ∃ (r : Int32) (sC' sM' : StT), f_X11_classical n sC x = some (r, sC') ∧ f_X12_classical n sM x = some (r, sM') ∧ AgH 41 2 sC sC' ∧ AgL sM sM' := by
  unfold f_X11_classical f_X12_classical
  rcases both_has (n := n) hC.1 hM.1 hw.2.1 x with ⟨f, hf, rfl, e1, e2⟩ | ⟨e1, e2⟩
  · obtain ⟨r, s', a1, a2, a3⟩ := classicC hn hC hw hf
    obtain ⟨r', s1, s2, b1, b2, b3, b4⟩ := classicM hn hM hV hw hf
    rw [e1, e2, Option.bind_some, Option.bind_some, if_neg (show ¬ (1 : Int32) = 0 by decide), if_neg (show ¬ (1 : Int32) = 0 by decide), a1, b1, Option.bind_some, Option.bind_some, b2]
    have := clR_one a3 b4
    subst this
    exact ⟨_, _, _, rfl, rfl, a2, b3⟩
  · rw [e1, e2]
    simp only [bnd, if_true]
    exact ⟨_, _, _, rfl, rfl, AgH.rf _ _ _, AgL.rf _⟩
