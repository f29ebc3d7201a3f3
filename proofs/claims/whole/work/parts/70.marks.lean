/-! ===== which parts a formula has ===== -/
/-- the parts known when d formulas, from f downward, have been looked at -/
def mks (t : FT) (f : Nat) : Nat → Nat → Bool
  | 0, k => decide (k = f)
  | d + 1, k => mks t f d k || (mks t f d (f - d) && decide (3 ≤ t.2.1 (f - d)) && (decide (k = t.2.2.1 (f - d)) || decide (k = t.2.2.2 (f - d))))
/-- the variables met by then -/
def vms (t : FT) (f : Nat) : Nat → Nat → Bool
  | 0, _ => false
  | d + 1, v => vms t f d v || (mks t f d (f - d) && decide (t.2.1 (f - d) = 2) && decide (t.2.2.1 (f - d) = v))
theorem mks_up {t : FT} {f d k : Nat} (h : mks t f d k = true) : ∀ e, mks t f (d + e) k = true := by
  intro e
  induction e with
  | zero => exact h
  | succ e ih => rw [← Nat.add_assoc, mks, ih]; rfl
theorem mks_f (t : FT) (f d : Nat) : mks t f d f = true := by
  have := mks_up (t := t) (f := f) (d := 0) (k := f) (by simp [mks]) d
  rwa [Nat.zero_add] at this
/-- behind the place that is looked at nothing new comes -/
theorem mks_new {t : FT} {vn f : Nat} (hw : WFt t vn) (hf : f < t.1) : ∀ (e d k : Nat), f - d < k → mks t f (d + e) k = mks t f d k := by
  intro e
  induction e with
  | zero => intro d k _; rfl
  | succ e ih =>
    intro d k hk
    rw [← Nat.add_assoc, mks, ih d k hk]
    by_cases c : 3 ≤ t.2.1 (f - (d + e))
    · have h2 : 2 ≤ f - (d + e) := by
        rcases Nat.lt_or_ge (f - (d + e)) 2 with q | q
        · rcases (show f - (d + e) = 0 ∨ f - (d + e) = 1 by omega) with z | z
          · rw [z, hw.2.2.1.1] at c; omega
          · rw [z, hw.2.2.2.1.1] at c; omega
        · exact q
      rcases hw.2.2.2.2.2.1 (f - (d + e)) h2 (by omega) with ⟨q1, -, -⟩ | ⟨-, -, q3, q4⟩
      · omega
      · simp [show k ≠ t.2.2.1 (f - (d + e)) by omega, show k ≠ t.2.2.2 (f - (d + e)) by omega]
    · simp [c]
/-- all parts -/
def prt (t : FT) (f k : Nat) : Bool := mks t f (f + 1) k
theorem prt_at {t : FT} {vn f : Nat} (hw : WFt t vn) (hf : f < t.1) {k d : Nat} (hd : d ≤ f + 1) (hk : f - d < k) : prt t f k = mks t f d k := by
  unfold prt
  have := mks_new hw hf (f + 1 - d) d k hk
  rw [show d + (f + 1 - d) = f + 1 by omega] at this
  exact this
/-- a part's parts are parts -/
theorem prt_parts {t : FT} {vn f : Nat} (hw : WFt t vn) (hf : f < t.1) {k : Nat} (hk : k ≤ f) (hp : prt t f k = true) (h3 : 3 ≤ t.2.1 k) : prt t f (t.2.2.1 k) = true ∧ prt t f (t.2.2.2 k) = true := by
  have hm : mks t f (f - k) k = true := by
    rcases Nat.eq_zero_or_pos k with e | e
    · subst e; rw [hw.2.2.1.1] at h3; omega
    · have e1 : prt t f k = mks t f (f - k) k := by
        rcases Nat.eq_or_lt_of_le hk with z | z
        · subst z; rw [Nat.sub_self]; unfold prt; rw [mks_f]; simp [mks]
        · have := prt_at hw hf (k := k) (d := f - k) (by omega)
          by_cases q : f - (f - k) < k
          · exact this q
          · have q2 : f - (f - k) = k := by omega
            -- at the place itself nothing is added to k by looking at k
            have s1 := prt_at hw hf (k := k) (d := f - k + 1) (by omega) (by omega)
            rw [s1, mks, q2]
            have : k ≠ t.2.2.1 k ∧ k ≠ t.2.2.2 k := by
              have h2 : 2 ≤ k := by
                rcases Nat.lt_or_ge k 2 with w | w
                · have : k = 1 := by omega
                  rw [this, hw.2.2.2.1.1] at h3; omega
                · exact w
              rcases hw.2.2.2.2.2.1 k h2 (by omega) with ⟨w1, -, -⟩ | ⟨-, -, w3, w4⟩
              · omega
              · omega
            simp [this.1, this.2]
      rw [← e1]; exact hp
  have hs : ∀ j, (j = t.2.2.1 k ∨ j = t.2.2.2 k) → prt t f j = true := by
    intro j hj
    have h1 : mks t f (f - k + 1) j = true := by
      rw [mks, show f - (f - k) = k by omega, hm]
      rcases hj with e | e <;> simp [e, h3]
    have := mks_up h1 (f + 1 - (f - k + 1))
    unfold prt
    rwa [show f - k + 1 + (f + 1 - (f - k + 1)) = f + 1 by omega] at this
  exact ⟨hs _ (Or.inl rfl), hs _ (Or.inr rfl)⟩
/-! the class -/
def AgP (s s' : StT) : Prop := (∀ j, s'.1 j = s.1 j) ∧ (∀ j, j ≠ 41 → s'.2.1 j = s.2.1 j) ∧ s'.2.2 = s.2.2
theorem AgP.rf (s : StT) : AgP s s := ⟨fun _ => rfl, fun _ _ => rfl, rfl⟩
theorem AgP.tr {a b c : StT} (h : AgP a b) (g : AgP b c) : AgP a c := ⟨fun j => (g.1 j).trans (h.1 j), fun j hj => (g.2.1 j hj).trans (h.2.1 j hj), g.2.2.trans h.2.2⟩
theorem AgP.up (s : StT) (i v : Int32) : AgP s (uA s 41 i v) := ⟨fun _ => rfl, fun j hj => by simp only [uA_21, hj, if_false], rfl⟩
theorem CFt.ag {s s' : StT} {t : FT} (h6 : s'.1 6 = s.1 6) (h2 : s'.2.1 2 = s.2.1 2) (h3 : s'.2.1 3 = s.2.1 3) (h4 : s'.2.1 4 = s.2.1 4) (h5 : s'.2.1 5 = s.2.1 5) (g6 : s'.2.1 6 = s.2.1 6) (h : CFt s t) : CFt s' t := by
  unfold CFt CFF0 at *
  rw [h6, h2, h3, h4, h5, g6]
  exact h
theorem CFt.agP {s s' : StT} {t : FT} (a : AgP s s') (h : CFt s t) : CFt s' t := CFt.ag (a.1 6) (a.2.1 2 (by decide)) (a.2.1 3 (by decide)) (a.2.1 4 (by decide)) (a.2.1 5 (by decide)) (a.2.1 6 (by decide)) h
theorem nb1 : vp_nar .byte (1 : Int32) = 1 := by decide
theorem nb0 : vp_nar .byte (0 : Int32) = 0 := by decide
theorem markC {n : Nat} {s : StT} {i : Nat} (hi : i < 2000) : f_X2_mark n s (nI i) = some (uA s 41 (nI i) 1) := by
  unfold f_X2_mark f_X2_isPart
  rw [if_neg (nI_nneg (by omega)), if_neg (show ¬ (2000 : Int32) ≤ nI i from fun e => absurd ((nI_leI (a := 2000) (by omega) (by omega)).mp e) (by omega))]
  simp only [bnd, i10, if_false]
  rw [inB_nI hi (by omega), if_pos rfl, nb1]
def mI (b : Bool) : Int32 := if b = true then 1 else 0
theorem markAll_loop {n : Nat} {sC : StT} {t : FT} {vn f : Nat} (hC : CFt sC t) (hw : WFt t vn) (hf : f < t.1) : ∀ (m fu : Nat) (s : StT) (vm : Int32), m ≤ f + 1 → m < fu → AgP sC s → (∀ k, k ≤ f → s.2.1 41 k = mI (mks t f (f + 1 - m) k)) → (∀ v, v < 32 → b32 vm v = vms t f (f + 1 - m) v) → ∃ (s' : StT) (vm' : Int32), f_X2_markAll_42 n fu s vm (nI m - 1) = some (vm', s') ∧ AgP sC s' ∧ (∀ k, k ≤ f → s'.2.1 41 k = mI (prt t f k)) ∧ ∀ v, v < 32 → b32 vm' v = vms t f (f + 1) v := by
  have hb := hw.2.1
  intro m
  induction m with
  | zero =>
    intro fu s vm hm hfu hA hs hv
    obtain ⟨fu, rfl⟩ : ∃ q, fu = q + 1 := ⟨fu - 1, by omega⟩
    rw [f_X2_markAll_42, nI_neg1, if_pos m1_neg]
    exact ⟨s, vm, rfl, hA, hs, hv⟩
  | succ i ih =>
    intro fu s vm hm hfu hA hs hv
    obtain ⟨fu, rfl⟩ : ∃ q, fu = q + 1 := ⟨fu - 1, by omega⟩
    have hCs := hC.agP hA
    have hd : f + 1 - i = (f + 1 - (i + 1)) + 1 := by omega
    have hat : f - (f + 1 - (i + 1)) = i := by omega
    rw [f_X2_markAll_42, nI_m1, if_neg (nI_nneg (by omega)), inB_nI (show i < 2000 by omega) (by omega), if_pos rfl, nI_cl (by omega), hs i (by omega)]
    have e1 : nI i + -1 = nI i - 1 := by rw [Int32.sub_eq_add_neg]
    have same : mks t f (f + 1 - (i + 1)) i = false ∨ t.2.1 i < 3 → (∀ k, k ≤ f → s.2.1 41 k = mI (mks t f (f + 1 - i) k)) := by
      intro hq k hk
      rw [hs k hk, hd, mks, hat]
      rcases hq with hq | hq
      · rw [hq]; simp
      · simp [show ¬ 3 ≤ t.2.1 i by omega]
    have samev : mks t f (f + 1 - (i + 1)) i = false ∨ t.2.1 i ≠ 2 → (∀ v, v < 32 → b32 vm v = vms t f (f + 1 - i) v) := by
      intro hq v hv2
      rw [hv v hv2, hd, vms, hat]
      rcases hq with hq | hq
      · rw [hq]; simp
      · simp [hq]
    have step : ∀ (s2 : StT) (vm2 : Int32), AgP sC s2 → (∀ k, k ≤ f → s2.2.1 41 k = mI (mks t f (f + 1 - i) k)) → (∀ v, v < 32 → b32 vm2 v = vms t f (f + 1 - i) v) → ∃ (s' : StT) (vm' : Int32), f_X2_markAll_42 n fu s2 vm2 (nI i + -1) = some (vm', s') ∧ AgP sC s' ∧ (∀ k, k ≤ f → s'.2.1 41 k = mI (prt t f k)) ∧ ∀ v, v < 32 → b32 vm' v = vms t f (f + 1) v := by
      intro s2 vm2 a1 a2 a3
      rw [e1]
      exact ih fu s2 vm2 (by omega) (by omega) a1 a2 a3
    have bd := hw.bd (f := i) (by omega)
    by_cases c : mks t f (f + 1 - (i + 1)) i = true
    · rw [c, show mI true = 1 from rfl, if_pos rfl, kindOfF0 hCs (by omega : i < t.1)]
      simp only [bnd]
      unfold f_X2_markAll_68
      by_cases k2 : t.2.1 i = 2
      · rw [if_pos (show nI (t.2.1 i) = (2 : Int32) by rw [k2]; rfl), firstOfF0 hCs (by omega : i < t.1)]
        simp only [bnd]
        have i2 : 2 ≤ i := by
          rcases Nat.lt_or_ge i 2 with w | w
          · rcases (show i = 0 ∨ i = 1 by omega) with rfl | rfl
            · rw [hw.2.2.1.1] at k2; omega
            · rw [hw.2.2.2.1.1] at k2; omega
          · exact w
        have hv24 : t.2.2.1 i < 24 := by
          rcases hw.2.2.2.2.2.1 i i2 (by omega) with ⟨-, q2, -⟩ | ⟨q1, -, -, -⟩
          · have := hw.2.2.2.2.1; omega
          · omega
        refine step s _ hA (same (Or.inr (by omega))) (fun v hv2 => ?_)
        rw [b32_or, b32_shl (by omega) hv2, hv v hv2, hd, vms, hat, c, k2]
        simp [eq_comm]
      · rw [if_neg (show ¬ nI (t.2.1 i) = (2 : Int32) from fun e => k2 (nI_inj (b := 2) (by omega) (by omega) e))]
        by_cases k3 : t.2.1 i < 3
        · rw [if_pos (show nI (t.2.1 i) < (3 : Int32) from (nI_ltI (b := 3) (by omega) (by omega)).mpr k3)]
          exact step s vm hA (same (Or.inr k3)) (samev (Or.inr k2))
        · rw [if_neg (show ¬ nI (t.2.1 i) < (3 : Int32) from fun e => k3 ((nI_ltI (b := 3) (by omega) (by omega)).mp e)), firstOfF0 hCs (by omega : i < t.1)]
          simp only [bnd]
          have i2 : 2 ≤ i := by
            rcases Nat.lt_or_ge i 2 with w | w
            · rcases (show i = 0 ∨ i = 1 by omega) with rfl | rfl
              · rw [hw.2.2.1.1] at k3; omega
              · rw [hw.2.2.2.1.1] at k3; omega
            · exact w
          have hp : t.2.2.1 i < i ∧ t.2.2.2 i < i := by
            rcases hw.2.2.2.2.2.1 i i2 (by omega) with ⟨q1, -, -⟩ | ⟨-, -, q3, q4⟩
            · omega
            · exact ⟨q3, q4⟩
          rw [markC (by omega)]
          simp only [bnd]
          have a1 := hA.tr (AgP.up s (nI (t.2.2.1 i)) 1)
          rw [secondOfF0 (hC.agP a1) (by omega : i < t.1)]
          simp only [bnd]
          rw [markC (by omega)]
          simp only [bnd]
          refine step _ vm (a1.tr (AgP.up _ _ _)) (fun k hk => ?_) (samev (Or.inr k2))
          simp only [uA_21, if_true, upd_j, nI_cl (show t.2.2.1 i < 2 ^ 31 by omega), nI_cl (show t.2.2.2 i < 2 ^ 31 by omega)]
          rw [hs k hk, hd, mks, hat, c]
          by_cases z1 : k = t.2.2.2 i
          · simp [z1, mI, show 3 ≤ t.2.1 i by omega]
          · by_cases z2 : k = t.2.2.1 i
            · simp [z1, z2, mI, show 3 ≤ t.2.1 i by omega]
            · simp [z1, z2]
    · have c' : mks t f (f + 1 - (i + 1)) i = false := by simpa using c
      rw [c', show mI false = 0 from rfl, if_neg (by decide)]
      unfold f_X2_markAll_68
      rw [if_neg (by decide), if_pos (by decide)]
      exact step s vm hA (same (Or.inl c')) (samev (Or.inl c'))
theorem markAll_zero {n : Nat} {sC : StT} {f : Nat} (hf : f < 2000) : ∀ (d k fu : Nat) (s : StT), k + d = f + 1 → d < fu → AgP sC s → (∀ i, i < k → s.2.1 41 i = 0) → ∃ s' : StT, f_X2_markAll_2 n fu s (nI f) (nI k) = f_X2_markAll_27 n s' (nI f) ∧ AgP sC s' ∧ ∀ i, i ≤ f → s'.2.1 41 i = 0 := by
  intro d
  induction d with
  | zero =>
    intro k fu s hk hfu hA hs
    obtain ⟨fu, rfl⟩ : ∃ q, fu = q + 1 := ⟨fu - 1, by omega⟩
    rw [f_X2_markAll_2, if_pos ((nI_ltI (by omega) (by omega)).mpr (by omega))]
    exact ⟨s, rfl, hA, fun i hi => hs i (by omega)⟩
  | succ d ih =>
    intro k fu s hk hfu hA hs
    obtain ⟨fu, rfl⟩ : ∃ q, fu = q + 1 := ⟨fu - 1, by omega⟩
    rw [f_X2_markAll_2, if_neg (fun e => absurd ((nI_ltI (by omega) (by omega)).mp e) (by omega)), if_neg (show ¬ (2000 : Int32) ≤ nI k from fun e => absurd ((nI_leI (a := 2000) (by omega) (by omega)).mp e) (by omega)), inB_nI (show k < 2000 by omega) (by omega), if_pos rfl, nI_1, nb0]
    refine ih (k + 1) fu _ (by omega) (by omega) (hA.tr (AgP.up _ _ _)) (fun i hi => ?_)
    simp only [uA_21, if_true, upd_j, nI_cl (show k < 2 ^ 31 by omega)]
    by_cases e : i = k
    · simp [e]
    · simp [e, hs i (by omega)]
theorem markAllC {n : Nat} (hn : 100000 ≤ n) {sC : StT} {t : FT} {vn f : Nat} (hC : CFt sC t) (hw : WFt t vn) (hf : f < t.1) : ∃ (s' : StT) (vm : Int32), f_X2_markAll n sC (nI f) = some (vm, s') ∧ AgP sC s' ∧ (∀ k, k ≤ f → s'.2.1 41 k = mI (prt t f k)) ∧ ∀ v, v < 32 → b32 vm v = vms t f (f + 1) v := by
  have hb := hw.2.1
  unfold f_X2_markAll
  obtain ⟨s1, e1, a1, z1⟩ := markAll_zero (n := n) (sC := sC) (f := f) (by omega) (f + 1) 0 n sC (by omega) (by omega) (AgP.rf _) (fun i hi => by omega)
  rw [nI_0] at e1
  rw [e1]
  unfold f_X2_markAll_27
  rw [markC (by omega)]
  simp only [bnd]
  rw [if_neg (show ¬ (1999 : Int32) < nI f from fun e => absurd ((nI_ltI (a := 1999) (by omega) (by omega)).mp e) (by omega))]
  have := markAll_loop (n := n) hC hw hf (f + 1) n (uA s1 41 (nI f) 1) 0 (by omega) (by omega) (a1.tr (AgP.up _ _ _)) (fun k hk => by
    simp only [uA_21, if_true, upd_j, nI_cl (show f < 2 ^ 31 by omega), Nat.sub_self, mks]
    by_cases e : k = f
    · simp [e, mI]
    · simp [e, mI, z1 k hk]) (fun v hv => by rw [b32_0, Nat.sub_self]; rfl)
  rwa [nI_m1] at this
