/-! ===== classical: the value under an assignment ===== -/
def cvF (t : FT) (g : Nat → Bool) : Nat → Nat → Bool
  | 0, _ => false
  | d + 1, k => if t.2.1 k = 1 then true else if t.2.1 k = 2 then g (t.2.2.1 k) else if t.2.1 k = 3 then cvF t g d (t.2.2.1 k) && cvF t g d (t.2.2.2 k) else if t.2.1 k = 4 then cvF t g d (t.2.2.1 k) || cvF t g d (t.2.2.2 k) else if t.2.1 k = 5 then !cvF t g d (t.2.2.1 k) || cvF t g d (t.2.2.2 k) else false
def cv (t : FT) (g : Nat → Bool) (k : Nat) : Bool := cvF t g (k + 1) k
theorem WFt.two {t : FT} {vn k : Nat} (hw : WFt t vn) (h : 2 ≤ t.2.1 k) : 2 ≤ k := by
  rcases Nat.lt_or_ge k 2 with q | q
  · rcases (show k = 0 ∨ k = 1 by omega) with rfl | rfl
    · rw [hw.2.2.1.1] at h; omega
    · rw [hw.2.2.2.1.1] at h; omega
  · exact q
theorem WFt.lo {t : FT} {vn k : Nat} (hw : WFt t vn) (hk : k < t.1) (h : 3 ≤ t.2.1 k) : t.2.2.1 k < k ∧ t.2.2.2 k < k := by
  rcases hw.2.2.2.2.2.1 k (hw.two (by omega)) hk with ⟨q1, -, -⟩ | ⟨-, -, q3, q4⟩
  · omega
  · exact ⟨q3, q4⟩
theorem WFt.var {t : FT} {vn k : Nat} (hw : WFt t vn) (hk : k < t.1) (h : t.2.1 k = 2) : t.2.2.1 k < vn ∧ t.2.2.2 k = 0 := by
  rcases hw.2.2.2.2.2.1 k (hw.two (by omega)) hk with ⟨-, q1, q2⟩ | ⟨q1, -, q3, q4⟩
  · exact ⟨q1, q2⟩
  · omega
theorem cv_fuel {t : FT} {vn : Nat} {g : Nat → Bool} (hw : WFt t vn) : ∀ (d k : Nat), k < t.1 → k < d → cvF t g d k = cv t g k := by
  intro d
  induction d using Nat.strongRecOn with
  | ind d ih =>
    intro k hk hd
    unfold cv
    cases d with
    | zero => omega
    | succ d =>
      rcases Nat.eq_or_lt_of_le (Nat.lt_succ_iff.mp hd) with e | e
      · rw [e]
      · by_cases c : 3 ≤ t.2.1 k
        · have := hw.lo hk c
          have e0 : ∀ a, a < k → cvF t g d a = cvF t g k a := fun a ha => by rw [ih d (by omega) a (by omega) (by omega), ih k (by omega) a (by omega) (by omega)]
          rw [cvF, cvF, e0 _ this.1, e0 _ this.2]
        · rw [cvF, cvF]
          rcases (show t.2.1 k = 0 ∨ t.2.1 k = 1 ∨ t.2.1 k = 2 by omega) with z | z | z <;> simp [z]
theorem cv_e {t : FT} {vn k : Nat} {g : Nat → Bool} (hw : WFt t vn) (hk : k < t.1) : cv t g k = if t.2.1 k = 1 then true else if t.2.1 k = 2 then g (t.2.2.1 k) else if t.2.1 k = 3 then cv t g (t.2.2.1 k) && cv t g (t.2.2.2 k) else if t.2.1 k = 4 then cv t g (t.2.2.1 k) || cv t g (t.2.2.2 k) else if t.2.1 k = 5 then !cv t g (t.2.2.1 k) || cv t g (t.2.2.2 k) else false := by
  by_cases c : 3 ≤ t.2.1 k
  · have := hw.lo hk c
    rw [← cv_fuel hw k (t.2.2.1 k) (by omega) (by omega), ← cv_fuel hw k (t.2.2.2 k) (by omega) (by omega)]
    unfold cv
    rw [cvF]
  · unfold cv
    rw [cvF]
    rcases (show t.2.1 k = 0 ∨ t.2.1 k = 1 ∨ t.2.1 k = 2 by omega) with z | z | z <;> simp [z]
/-- only the variables of f matter -/
theorem vms_iff {t : FT} {f v : Nat} : ∀ d, vms t f d v = true ↔ ∃ e, e < d ∧ mks t f e (f - e) = true ∧ t.2.1 (f - e) = 2 ∧ t.2.2.1 (f - e) = v := by
  intro d
  induction d with
  | zero => simp [vms]
  | succ d ih =>
    rw [vms, Bool.or_eq_true, ih]
    constructor
    · rintro (⟨e, e1, e2⟩ | h)
      · exact ⟨e, by omega, e2⟩
      · simp only [Bool.and_eq_true, decide_eq_true_eq] at h
        exact ⟨d, by omega, h.1.1, h.1.2, h.2⟩
    · rintro ⟨e, e1, e2, e3, e4⟩
      rcases Nat.eq_or_lt_of_le (Nat.lt_succ_iff.mp e1) with z | z
      · subst z; right; simp [e2, e3, e4]
      · exact Or.inl ⟨e, z, e2, e3, e4⟩
theorem prt_self {t : FT} {vn f k : Nat} (hw : WFt t vn) (hf : f < t.1) (hk : k ≤ f) (h2 : t.2.1 k = 2) : prt t f k = mks t f (f - k) k := by
  have k2 := hw.two (by omega : 2 ≤ t.2.1 k)
  have s1 := prt_at hw hf (k := k) (d := f - k + 1) (by omega) (by omega)
  rw [s1, mks, show f - (f - k) = k by omega, h2]
  simp
theorem vms_var {t : FT} {vn f k : Nat} (hw : WFt t vn) (hf : f < t.1) (hk : k < t.1) (h2 : t.2.1 k = 2) : vms t f (f + 1) (t.2.2.1 k) = (decide (k ≤ f) && prt t f k) := by
  rw [Bool.eq_iff_iff, vms_iff, Bool.and_eq_true, decide_eq_true_eq]
  constructor
  · rintro ⟨e, e1, e2, e3, e4⟩
    have hz := hw.var (k := f - e) (by omega) e3
    have hz' := hw.var hk h2
    have e5 : f - e = k := hw.2.2.2.2.2.2 _ _ (by omega) hk (by rw [e3, h2]) e4 (by rw [hz.2, hz'.2])
    refine ⟨by omega, ?_⟩
    rw [prt_self hw hf (by omega) h2, show f - k = e by omega, ← e5]
    exact e2
  · rintro ⟨h1, h3⟩
    refine ⟨f - k, by omega, ?_, ?_⟩
    · rw [show f - (f - k) = k by omega, ← prt_self hw hf h1 h2]; exact h3
    · rw [show f - (f - k) = k by omega]; exact ⟨h2, rfl⟩
theorem vms_bd {t : FT} {vn f v : Nat} (hw : WFt t vn) (hf : f < t.1) (h : vms t f (f + 1) v = true) : v < vn := by
  obtain ⟨e, e1, e2, e3, e4⟩ := (vms_iff _).mp h
  rw [← e4]
  exact (hw.var (by omega) e3).1
theorem cv_loc {t : FT} {vn f : Nat} {g g' : Nat → Bool} (hw : WFt t vn) (hf : f < t.1) (hg : ∀ v, vms t f (f + 1) v = true → g v = g' v) : ∀ k, k ≤ f → prt t f k = true → cv t g k = cv t g' k := by
  intro k
  induction k using Nat.strongRecOn with
  | ind k ih =>
    intro hk hp
    rw [cv_e (g := g) (k := k) hw (by omega), cv_e (g := g') (k := k) hw (by omega)]
    by_cases c : 3 ≤ t.2.1 k
    · have hl := hw.lo (by omega) c
      have pp := prt_parts hw hf hk hp c
      rw [ih _ hl.1 (by omega) pp.1, ih _ hl.2 (by omega) pp.2]
      rcases (show t.2.1 k ≠ 2 by omega) with z
      simp [z]
    · by_cases c2 : t.2.1 k = 2
      · have := vms_var hw hf (k := k) (by omega) c2
        rw [hg _ (by rw [this, hp]; simp [hk])]
        simp [c2]
      · rcases (show t.2.1 k = 0 ∨ t.2.1 k = 1 by omega) with z | z <;> simp [z]
/-- the place of a variable among those of f -/
def ps (t : FT) (f v : Nat) : Nat := cnt (vms t f (f + 1)) v
/-- what assignment a gives to variable v -/
def gA (t : FT) (f a : Nat) (v : Nat) : Bool := a.testBit (ps t f v)
theorem ps_lt {t : FT} {f v m : Nat} (hv : v < m) (h : vms t f (f + 1) v = true) : ps t f v < ps t f m := by
  unfold ps
  induction m with
  | zero => omega
  | succ m ih =>
    rw [cnt]
    rcases Nat.eq_or_lt_of_le (Nat.lt_succ_iff.mp hv) with e | e
    · subst e; rw [if_pos h]; omega
    · have := ih e; omega
/-- only the low bits of an assignment matter -/
theorem cv_mod {t : FT} {vn f : Nat} (hw : WFt t vn) (hf : f < t.1) (a : Nat) : cv t (gA t f a) f = cv t (gA t f (a % 2 ^ ps t f vn)) f := by
  refine cv_loc hw hf (fun v hv => ?_) f (Nat.le_refl _) (by unfold prt; exact mks_f t f _)
  unfold gA
  rw [Nat.testBit_mod_two_pow]
  have := ps_lt (vms_bd hw hf hv) hv
  simp [this]
/-! the class -/
theorem b32_nI {r i : Nat} (hi : i < 32) : b32 (nI r) i = r.testBit i := by
  unfold b32
  show (BitVec.ofNat 32 r).getLsbD i = _
  rw [BitVec.getLsbD_ofNat]
  simp [hi]
theorem pat_bit : ∀ p, p < 6 → ∀ j, j < 64 → b64 (pats.getD p 0) j = j.testBit p := by decide +kernel
theorem low_bit : ∀ v, v < 24 → ∀ i, i < 32 → b32 (((1 : Int32) <<< (nI v &&& 31)) - 1) i = decide (i < v) := by decide +kernel
theorem assignedC {n : Nat} {s : StT} {t : FT} {f v ro : Nat} {vm : Int32} (hv : v < 24) (hm : ∀ v, v < 32 → b32 vm v = vms t f (f + 1) v) : ∃ vC : Int64, f_X2_assigned n s (nI v) vm (nI ro) = some (vC, s) ∧ ∀ j, j < 64 → b64 vC j = gA t f (64 * ro + j) v := by
  unfold f_X2_assigned
  rw [bitCount32]
  simp only [bnd]
  have hc : cnt (fun i => b32 (vm &&& (((1 : Int32) <<< (nI v &&& 31)) - 1)) i) 32 = ps t f v := by
    rw [cnt_cut (a := v) (by omega) (fun k k1 k2 => by rw [b32_and, low_bit v hv k k2]; simp; omega)]
    exact cnt_congr (fun i hi => by rw [b32_and, low_bit v hv i (by omega), hm i (by omega)]; simp [hi])
  have hle : ps t f v ≤ v := cnt_le _ _
  rw [hc, if_neg (nI_nneg (by omega))]
  have hg : ∀ j, gA t f (64 * ro + j) v = (2 ^ 6 * ro + j).testBit (ps t f v) := fun j => rfl
  by_cases c : 6 ≤ ps t f v
  · rw [if_pos (show (6 : Int32) ≤ nI (ps t f v) from (nI_leI (a := 6) (by omega) (by omega)).mpr c)]
    unfold f_X2_assigned_29
    obtain ⟨p, hp⟩ : ∃ p, ps t f v = p + 6 := ⟨ps t f v - 6, by omega⟩
    have e6 : nI (p + 6) - 6 = nI p := by
      rw [show nI (p + 6) = nI p + nI 6 from (nI_add p 6).symm, show nI 6 = (6 : Int32) from rfl, Int32.add_sub_cancel]
    rw [hp, e6, tst32u _ (show p < 32 by omega), b32_nI (by omega)]
    by_cases b : ro.testBit p = true
    · rw [if_pos b, if_pos rfl]
      refine ⟨_, rfl, fun j hj => ?_⟩
      rw [hg, hp, Nat.testBit_two_pow_mul_add _ (by omega), if_neg (by omega), show p + 6 - 6 = p by omega, b, b64_m1 hj]
    · rw [if_neg b, if_neg (by decide)]
      refine ⟨_, rfl, fun j hj => ?_⟩
      rw [hg, hp, Nat.testBit_two_pow_mul_add _ (by omega), if_neg (by omega), show p + 6 - 6 = p by omega, b64_0]
      simpa using b
  · rw [if_neg (show ¬ (6 : Int32) ≤ nI (ps t f v) from fun e => c ((nI_leI (a := 6) (by omega) (by omega)).mp e)), inB_nI (show ps t f v < 6 by omega) (by omega), if_pos rfl, nI_cl (by omega)]
    refine ⟨_, rfl, fun j hj => ?_⟩
    rw [hg, Nat.testBit_two_pow_mul_add _ (by omega), if_pos (by omega), pat_bit _ (by omega) j hj]
theorem simpleC {n : Nat} {s : StT} {t : FT} {vn k : Nat} (hC : CFt s t) (hw : WFt t vn) (hk : k < t.1) : f_X2_simpleValue n s (nI k) = some (if nI (t.2.1 k) = 1 then (-1 : Int64) else if nI (t.2.1 k) = 3 then s.2.2.2 2 (t.2.2.1 k) &&& s.2.2.2 2 (t.2.2.2 k) else if nI (t.2.1 k) = 4 then s.2.2.2 2 (t.2.2.1 k) ||| s.2.2.2 2 (t.2.2.2 k) else 0, s) := by
  have bd := hw.bd hk
  unfold f_X2_simpleValue
  rw [firstOfF0 hC hk]
  simp only [bnd]
  rw [valueOfC (by omega)]
  simp only [bnd]
  rw [secondOfF0 hC hk]
  simp only [bnd]
  rw [valueOfC (by omega)]
  simp only [bnd]
  rw [kindOfF0 hC hk]
  simp only [bnd]
  split
  · rfl
  · split
    · rfl
    · split <;> rfl
theorem valueByC {n : Nat} {s : StT} {t : FT} {vn f k ro : Nat} {vm : Int32} (hC : CFt s t) (hw : WFt t vn) (hk : k < t.1) (hm : ∀ v, v < 32 → b32 vm v = vms t f (f + 1) v) (hv : 3 ≤ t.2.1 k → ∀ j, j < 64 → b64 (s.2.2.2 2 (t.2.2.1 k)) j = cv t (gA t f (64 * ro + j)) (t.2.2.1 k) ∧ b64 (s.2.2.2 2 (t.2.2.2 k)) j = cv t (gA t f (64 * ro + j)) (t.2.2.2 k)) : ∃ vC : Int64, f_X2_valueBy n s (nI k) vm (nI ro) = some (vC, s) ∧ ∀ j, j < 64 → b64 vC j = cv t (gA t f (64 * ro + j)) k := by
  have bd := hw.bd hk
  unfold f_X2_valueBy
  rw [kindOfF0 hC hk]
  simp only [bnd]
  have hS := simpleC (n := n) hC hw hk
  rcases (show t.2.1 k = 0 ∨ t.2.1 k = 1 ∨ t.2.1 k = 2 ∨ t.2.1 k = 3 ∨ t.2.1 k = 4 ∨ t.2.1 k = 5 by omega) with c | c | c | c | c | c
  · rw [c] at hS
    rw [c, if_neg (by decide), if_neg (by decide), hS]
    refine ⟨_, rfl, fun j hj => ?_⟩
    rw [cv_e hw hk, c]
    exact b64_0 j
  · rw [c] at hS
    rw [c, if_neg (by decide), if_neg (by decide), hS]
    refine ⟨_, rfl, fun j hj => ?_⟩
    rw [cv_e hw hk, c]
    exact b64_m1 hj
  · rw [c, if_pos (by decide), firstOfF0 hC hk]
    simp only [bnd]
    have hvn := hw.2.2.2.2.1
    obtain ⟨vC, e1, e2⟩ := assignedC (n := n) (s := s) (ro := ro) (show t.2.2.1 k < 24 by have := (hw.var hk c).1; omega) hm
    rw [e1]
    refine ⟨_, rfl, fun j hj => ?_⟩
    rw [cv_e hw hk, c]
    exact e2 j hj
  · rw [c] at hS
    rw [c, if_neg (by decide), if_neg (by decide), hS]
    refine ⟨_, rfl, fun j hj => ?_⟩
    rw [cv_e hw hk, c, ← (hv (by omega) j hj).1, ← (hv (by omega) j hj).2]
    exact b64_and _ _ j
  · rw [c] at hS
    rw [c, if_neg (by decide), if_neg (by decide), hS]
    refine ⟨_, rfl, fun j hj => ?_⟩
    rw [cv_e hw hk, c, ← (hv (by omega) j hj).1, ← (hv (by omega) j hj).2]
    exact b64_or _ _ j
  · rw [c, if_neg (by decide), if_pos (by decide)]
    unfold f_X2_failing
    rw [firstOfF0 hC hk]
    simp only [bnd]
    rw [valueOfC (by omega)]
    simp only [bnd]
    rw [secondOfF0 hC hk]
    simp only [bnd]
    rw [valueOfC (by omega)]
    simp only [bnd]
    refine ⟨_, rfl, fun j hj => ?_⟩
    rw [cv_e hw hk, c, ← (hv (by omega) j hj).1, ← (hv (by omega) j hj).2, b64_not _ hj, b64_and, b64_not _ hj]
    simp
