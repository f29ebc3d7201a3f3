/-! ===== classical: the loops of the class ===== -/
theorem clC_inner {n : Nat} {k41 : StT → Int32 → Int32 → Int32 → Int32 → Option (Int32 × StT)} {sC1 : StT} {t : FT} {vn f ro : Nat} {vm R : Int32} (hC : CFt sC1 t) (hw : WFt t vn) (hf : f < t.1) (hm : ∀ v, v < 32 → b32 vm v = vms t f (f + 1) v) (mC : ∀ k, k ≤ f → sC1.2.1 41 k = mI (prt t f k)) : ∀ (d k fu : Nat) (s : StT), k + d = f + 1 → d < fu → AgV 2 sC1 s → (∀ i, i < k → prt t f i = true → ∀ j, j < 64 → b64 (s.2.2.2 2 i) j = cv t (gA t f (64 * ro + j)) i) → ∃ s', f_X2_byAllAssignments_51 n k41 fu s (nI f) vm R (nI ro) (nI k) = f_X2_byAllAssignments_98 n k41 s' (nI f) vm R (nI ro) ∧ AgV 2 sC1 s' ∧ ∀ j, j < 64 → b64 (s'.2.2.2 2 f) j = cv t (gA t f (64 * ro + j)) f := by
  have hb := hw.2.1
  intro d
  induction d with
  | zero =>
    intro k fu s hk hfu a1 hv
    obtain ⟨fu, rfl⟩ : ∃ q, fu = q + 1 := ⟨fu - 1, by omega⟩
    rw [f_X2_byAllAssignments_51, if_pos ((nI_ltI (by omega) (by omega)).mpr (by omega))]
    exact ⟨s, rfl, a1, hv f (by omega) (by unfold prt; exact mks_f t f _)⟩
  | succ d ih =>
    intro k fu s hk hfu a1 hv
    obtain ⟨fu, rfl⟩ : ∃ q, fu = q + 1 := ⟨fu - 1, by omega⟩
    have c : ¬ nI f < nI k := fun e => absurd ((nI_ltI (by omega) (by omega)).mp e) (by omega)
    have hB := inB_nI (show k < 2000 by omega) (by omega)
    have hm1 : s.2.1 41 k = mI (prt t f k) := by rw [a1.2.1]; exact mC k (by omega)
    rw [f_X2_byAllAssignments_51, if_neg c, if_neg (show ¬ (2000 : Int32) ≤ nI k from fun e => absurd ((nI_leI (a := 2000) (by omega) (by omega)).mp e) (by omega)), hB, if_pos rfl, nI_cl (by omega), hm1]
    by_cases p : prt t f k = true
    · have hsC : CFt s t := CFt.ag (by rw [a1.1]) (by rw [a1.2.1]) (by rw [a1.2.1]) (by rw [a1.2.1]) (by rw [a1.2.1]) (by rw [a1.2.1]) hC
      obtain ⟨vC, e1, e2⟩ := valueByC (n := n) (ro := ro) hsC hw (show k < t.1 by omega) hm (fun h3 j hj => by
        have pp := prt_parts hw hf (by omega) p h3
        have hl := hw.lo (by omega) h3
        exact ⟨hv _ (by omega) pp.1 j hj, hv _ (by omega) pp.2 j hj⟩)
      rw [p, show mI true = 1 from rfl, if_pos rfl, e1]
      simp only [bnd, if_true, nI_1]
      refine ih (k + 1) fu _ (by omega) (by omega) (a1.up _ _) (fun i hi hp j hj => ?_)
      simp only [uM_222, if_true, updL_j, nI_cl (show k < 2 ^ 31 by omega)]
      by_cases e : i = k
      · rw [if_pos e, e]; exact e2 j hj
      · rw [if_neg e]; exact hv i (by omega) hp j hj
    · have p' : prt t f k = false := by simpa using p
      rw [p', show mI false = 0 from rfl, if_neg (by decide), nI_1]
      exact ih (k + 1) fu s (by omega) (by omega) a1 (fun i hi hp j hj => by
        rcases Nat.eq_or_lt_of_le (Nat.lt_succ_iff.mp hi) with e | e
        · rw [e] at hp; exact absurd hp p
        · exact hv i e hp j hj)
theorem clC_outer {n : Nat} (hn : 100000 ≤ n) {sC1 : StT} {t : FT} {vn f R : Nat} {vm : Int32} (hC : CFt sC1 t) (hw : WFt t vn) (hf : f < t.1) (hR : R ≤ 64) (hm : ∀ v, v < 32 → b32 vm v = vms t f (f + 1) v) (mC : ∀ k, k ≤ f → sC1.2.1 41 k = mI (prt t f k)) : ∀ (d ro fu : Nat) (s : StT), ro + d = R → d < fu → AgV 2 sC1 s → (∀ a, a < 64 * ro → cv t (gA t f a) f = true) → ∃ (r : Int32) (s' : StT), f_X2_byAllAssignments_41 n fu s (nI f) vm (nI R) (nI ro) = some (r, s') ∧ AgV 2 sC1 s' ∧ ((r = 1 ∧ ∀ a, a < 64 * R → cv t (gA t f a) f = true) ∨ (r = 0 ∧ ∃ a, a < 64 * R ∧ cv t (gA t f a) f = false)) := by
  have hb := hw.2.1
  intro d
  induction d with
  | zero =>
    intro ro fu s hk hfu a1 hv
    obtain ⟨fu, rfl⟩ : ∃ q, fu = q + 1 := ⟨fu - 1, by omega⟩
    rw [f_X2_byAllAssignments_41, if_pos ((nI_leI (by omega) (by omega)).mpr (by omega))]
    exact ⟨1, s, rfl, a1, Or.inl ⟨rfl, by rw [show R = ro by omega]; exact hv⟩⟩
  | succ d ih =>
    intro ro fu s hk hfu a1 hv
    obtain ⟨fu, rfl⟩ : ∃ q, fu = q + 1 := ⟨fu - 1, by omega⟩
    rw [f_X2_byAllAssignments_41, if_neg (fun e => absurd ((nI_leI (by omega) (by omega)).mp e) (by omega))]
    obtain ⟨s', e1, e2, e3⟩ := clC_inner (n := n) (k41 := f_X2_byAllAssignments_41 n fu) (ro := ro) (R := nI R) hC hw hf hm mC (f + 1) 0 n s (by omega) (by omega) a1 (fun i hi => by omega)
    rw [nI_0] at e1
    rw [e1]
    unfold f_X2_byAllAssignments_98
    rw [valueOfC (by omega)]
    simp only [bnd]
    by_cases c : s'.2.2.2 2 f = -1
    · rw [if_pos (lgc.mpr c), nI_1]
      refine ih (ro + 1) fu s' (by omega) (by omega) e2 (fun a ha => ?_)
      rcases Nat.lt_or_ge a (64 * ro) with q | q
      · exact hv a q
      · have := e3 (a - 64 * ro) (by omega)
        rw [show 64 * ro + (a - 64 * ro) = a by omega, c, b64_m1 (by omega)] at this
        exact this.symm
    · rw [if_neg (fun e => c (lgc.mp e))]
      refine ⟨0, s', rfl, e2, Or.inr ⟨rfl, ?_⟩⟩
      apply Classical.byContradiction
      intro hno
      apply c
      apply b64_ext
      intro j hj
      rw [e3 j hj, b64_m1 hj]
      rcases Bool.eq_false_or_eq_true (cv t (gA t f (64 * ro + j)) f) with q | q
      · exact q
      · exact absurd ⟨64 * ro + j, by omega, q⟩ hno
theorem pow_s : ∀ p, p < 7 → ((1 : Int32) <<< ((nI (p + 6) - 6) &&& 31)) = nI (2 ^ p) := by decide +kernel
theorem pow_m : ∀ p, p < 13 → ((1 : Int32) <<< (nI p &&& 31)) = nI (2 ^ p) := by decide +kernel
theorem pow_le : ∀ p, p < 7 → 2 ^ p ≤ 64 := by decide
theorem pow_le2 : ∀ p, p < 13 → 2 ^ p ≤ 4096 := by decide
/-- what both answer -/
def clR (t : FT) (vn f : Nat) (r : Int32) : Prop := if ps t f vn ≤ 12 then (r = 1 ∧ ∀ a, a < 2 ^ ps t f vn → cv t (gA t f a) f = true) ∨ (r = 0 ∧ ∃ a, a < 2 ^ ps t f vn ∧ cv t (gA t f a) f = false) else r = -4
theorem clR_one {t : FT} {vn f : Nat} {r r' : Int32} (h : clR t vn f r) (h' : clR t vn f r') : r = r' := by
  unfold clR at h h'
  split at h
  · rename_i c
    rw [if_pos c] at h'
    rcases h with ⟨h1, h2⟩ | ⟨h1, a, h2, h3⟩
    · rcases h' with ⟨g1, g2⟩ | ⟨g1, b, g2, g3⟩
      · rw [h1, g1]
      · rw [h2 b g2] at g3; exact absurd g3 (by decide)
    · rcases h' with ⟨g1, g2⟩ | ⟨g1, b, g2, g3⟩
      · rw [g2 a h2] at h3; exact absurd h3 (by decide)
      · rw [h1, g1]
  · rename_i c
    rw [if_neg c] at h'
    rw [h, h']
theorem cnt_vm {t : FT} {vn f : Nat} {vm : Int32} (hw : WFt t vn) (hf : f < t.1) (a4 : ∀ v, v < 32 → b32 vm v = vms t f (f + 1) v) : cnt (fun i => b32 vm i) 32 = ps t f vn := by
  have hvn := hw.2.2.2.2.1
  unfold ps
  rw [cnt_cut (a := vn) (by omega) (fun k k1 k2 => by
    rw [a4 k k2]
    rcases Bool.eq_false_or_eq_true (vms t f (f + 1) k) with q | q
    · exact absurd (vms_bd hw hf q) (by omega)
    · exact q)]
  exact cnt_congr (fun i hi => a4 i (by omega))
theorem cl_hi {p : Nat} : 2 ^ (p + 6) = 64 * 2 ^ p := by rw [Nat.pow_add]; omega
theorem byAll_e {n : Nat} {s s1 : StT} {x vm q : Int32} (h1 : f_X2_markAll n s x = some (vm, s1)) (h2 : f_J6_bitCount_0f7a4 n s1 vm = some (q, s1)) : f_X2_byAllAssignments n s x = if q ≤ (12 : Int32) then (if q ≤ (6 : Int32) then f_X2_byAllAssignments_41 n n s1 x vm (1 : Int32) (0 : Int32) else f_X2_byAllAssignments_41 n n s1 x vm ((1 : Int32) <<< ((q - (6 : Int32)) &&& 31)) (0 : Int32)) else some ((-4 : Int32), s1) := by
  unfold f_X2_byAllAssignments
  rw [h1, Option.bind_some, h2, Option.bind_some]
theorem classicC {n : Nat} (hn : 100000 ≤ n) {sC : StT} {t : FT} {vn f : Nat} (hC : CFt sC t) (hw : WFt t vn) (hf : f < t.1) : ∃ (r : Int32) (s' : StT), f_X2_byAllAssignments n sC (nI f) = some (r, s') ∧ AgH 41 2 sC s' ∧ clR t vn f r := by
  have hvn := hw.2.2.2.2.1
  obtain ⟨sC1, vm, a1, a2, a3, a4⟩ := markAllC hn hC hw hf
  have hcn := cnt_vm hw hf a4
  have hle : ps t f vn ≤ vn := cnt_le _ _
  have hbc := bitCount32 n sC1 vm
  rw [hcn] at hbc
  rw [byAll_e a1 hbc]
  have fr : ∀ s', AgV 2 sC1 s' → AgH 41 2 sC s' := fun s' g => ⟨fun j => by rw [g.1]; exact a2.1 j, fun j hj => by rw [g.2.1]; exact a2.2.1 j hj, by rw [g.2.2.1, a2.2.2], fun j hj => by rw [g.2.2.2 j hj, a2.2.2]⟩
  unfold clR
  by_cases c : ps t f vn ≤ 12
  · rw [if_pos (show nI (ps t f vn) ≤ (12 : Int32) from (nI_leI (b := 12) (by omega) (by omega)).mpr c)]
    simp only [if_pos c]
    by_cases c6 : ps t f vn ≤ 6
    · rw [if_pos (show nI (ps t f vn) ≤ (6 : Int32) from (nI_leI (b := 6) (by omega) (by omega)).mpr c6)]
      obtain ⟨r, s', e1, e2, e3⟩ := clC_outer (n := n) hn (R := 1) (hC.agP a2) hw hf (by omega) a4 a3 1 0 n sC1 (by omega) (by omega) (AgV.rf _ _) (fun a ha => by omega)
      rw [nI_0, show nI 1 = (1 : Int32) from rfl] at e1
      refine ⟨r, s', e1, fr s' e2, ?_⟩
      have hp := pow_le (ps t f vn) (by omega)
      rcases e3 with ⟨g1, g2⟩ | ⟨g1, a, g2, g3⟩
      · exact Or.inl ⟨g1, fun a ha => g2 a (by omega)⟩
      · refine Or.inr ⟨g1, a % 2 ^ ps t f vn, Nat.mod_lt _ (Nat.two_pow_pos _), ?_⟩
        rw [← cv_mod hw hf a]; exact g3
    · rw [if_neg (show ¬ nI (ps t f vn) ≤ (6 : Int32) from fun e => c6 ((nI_leI (b := 6) (by omega) (by omega)).mp e))]
      obtain ⟨p, hp⟩ : ∃ p, ps t f vn = p + 6 := ⟨ps t f vn - 6, by omega⟩
      rw [hp, pow_s p (by omega)]
      have hpl := pow_le p (by omega)
      obtain ⟨r, s', e1, e2, e3⟩ := clC_outer (n := n) hn (R := 2 ^ p) (hC.agP a2) hw hf (by omega) a4 a3 (2 ^ p) 0 n sC1 (by omega) (by omega) (AgV.rf _ _) (fun a ha => by omega)
      rw [nI_0] at e1
      refine ⟨r, s', e1, fr s' e2, ?_⟩
      rw [cl_hi]
      exact e3
  · rw [if_neg (show ¬ nI (ps t f vn) ≤ (12 : Int32) from fun e => c ((nI_leI (b := 12) (by omega) (by omega)).mp e))]
    simp only [if_neg c]
    exact ⟨_, _, rfl, fr _ (AgV.rf _ _), rfl⟩
