/-! ===== force, and what is forced ===== -/
def cnt (P : Nat → Bool) : Nat → Nat
  | 0 => 0
  | m + 1 => cnt P m + if P m = true then 1 else 0
theorem cnt_le (P : Nat → Bool) : ∀ m, cnt P m ≤ m := by
  intro m
  induction m with
  | zero => exact Nat.le_refl 0
  | succ m ih => unfold cnt; split <;> omega
theorem cnt_0 {P : Nat → Bool} : ∀ {m : Nat}, (∀ k, k < m → P k = false) → cnt P m = 0 := by
  intro m
  induction m with
  | zero => intro _; rfl
  | succ m ih =>
    intro h
    unfold cnt
    rw [ih (fun k hk => h k (by omega)), h m (by omega)]
    rfl
def AgC (s s' : StT) : Prop := (∀ j, s'.1 j = s.1 j) ∧ (∀ j, j ≠ 43 → s'.2.1 j = s.2.1 j) ∧ s'.2.2 = s.2.2
def AgM (s s' : StT) : Prop := (∀ j, s'.1 j = s.1 j) ∧ (∀ j, j ≠ 54 → s'.2.1 j = s.2.1 j) ∧ s'.2.2 = s.2.2
theorem forcesC {n : Nat} {s : StT} {dn vn : Nat} (h27 : s.1 27 = nI dn) (hd : dn ≤ 60) (h7 : s.1 7 = nI vn) (hvn : vn ≤ 24) {k v : Nat} (hk : k < dn) (hv : v < vn) : f_X9_forces n s (nI k) (nI v) = some (if b32 (s.2.1 43 k) v = true then 1 else 0, s) := by
  unfold f_X9_forces
  rw [hasD h27 hd (by omega), if_pos hk]
  simp only [bnd, i10, if_false]
  rw [hasV h7 hvn (by omega), if_pos hv]
  simp only [bnd, i10, if_false]
  rw [inB_nI (show k < 60 by omega) (by omega), if_pos rfl, nI_cl (by omega), tst32u _ (show v < 32 by omega)]
  by_cases c : b32 (s.2.1 43 k) v = true
  · rw [if_pos c, if_pos rfl]
  · rw [if_neg c, if_neg (by decide)]
theorem forceC_loop {n : Nat} {sC : StT} {dn vn : Nat} {dp : Nat → Nat} {df : Nat → Int32} (h27 : sC.1 27 = nI dn) (hd : dn ≤ 60) (h7 : sC.1 7 = nI vn) (hvn : vn ≤ 24) {w v : Nat} (hv : v < vn) {m : Int64} (hm : ∀ j, j < 64 → b64 m j = (decide (j < dn) && Ab dp w j)) : ∀ (d k fu : Nat) (s : StT), k + d = dn → d < fu → AgC sC s → (∀ i, i < dn → s.2.1 43 i = if i < k ∧ (Ab dp w i && !b32 (df i) v) = true then df i ||| ((1 : Int32) <<< (nI v &&& 31)) else df i) → ∃ s' : StT, f_X9_forceAbove_12 n fu s (nI v) m (nI (cnt (fun i => Ab dp w i && !b32 (df i) v) k)) (nI k) = some (nI (cnt (fun i => Ab dp w i && !b32 (df i) v) dn), s') ∧ AgC sC s' ∧ ∀ i, i < dn → s'.2.1 43 i = if (Ab dp w i && !b32 (df i) v) = true then df i ||| ((1 : Int32) <<< (nI v &&& 31)) else df i := by
  intro d
  induction d with
  | zero =>
    intro k fu s hk hfu hA hs
    obtain ⟨fu, rfl⟩ : ∃ q, fu = q + 1 := ⟨fu - 1, by omega⟩
    rw [f_X9_forceAbove_12, hA.1, h27, if_pos ((nI_leI (by omega) (by omega)).mpr (by omega))]
    refine ⟨s, by rw [show dn = k by omega], hA, fun i hi => ?_⟩
    rw [hs i hi]
    simp [show i < k by omega]
  | succ d ih =>
    intro k fu s hk hfu hA hs
    obtain ⟨fu, rfl⟩ : ∃ q, fu = q + 1 := ⟨fu - 1, by omega⟩
    have hc := cnt_le (fun i => Ab dp w i && !b32 (df i) v) k
    have hsk : s.2.1 43 k = df k := by rw [hs k (by omega)]; simp
    have hnext : ∀ (s2 : StT) (q : Nat), AgC sC s2 → q = cnt (fun i => Ab dp w i && !b32 (df i) v) (k + 1) → (∀ i, i < dn → s2.2.1 43 i = if i < k + 1 ∧ (Ab dp w i && !b32 (df i) v) = true then df i ||| ((1 : Int32) <<< (nI v &&& 31)) else df i) → ∃ s' : StT, f_X9_forceAbove_12 n fu s2 (nI v) m (nI q) (nI (k + 1)) = some (nI (cnt (fun i => Ab dp w i && !b32 (df i) v) dn), s') ∧ AgC sC s' ∧ ∀ i, i < dn → s'.2.1 43 i = if (Ab dp w i && !b32 (df i) v) = true then df i ||| ((1 : Int32) <<< (nI v &&& 31)) else df i := by
      intro s2 q h1 h2 h3
      subst h2
      exact ih (k + 1) fu s2 (by omega) (by omega) h1 h3
    rw [f_X9_forceAbove_12, hA.1, h27, if_neg (fun e => absurd ((nI_leI (by omega) (by omega)).mp e) (by omega)), if_neg (show ¬ (60 : Int32) ≤ nI k from fun e => absurd ((nI_leI (a := 60) (by omega) (by omega)).mp e) (by omega)), tst64u m (show k < 64 by omega), hm k (by omega)]
    have hAk : (decide (k < dn) && Ab dp w k) = Ab dp w k := by simp [show k < dn by omega]
    rw [hAk]
    have keep : (Ab dp w k && !b32 (df k) v) = false → ∀ i, i < dn → s.2.1 43 i = if i < k + 1 ∧ (Ab dp w i && !b32 (df i) v) = true then df i ||| ((1 : Int32) <<< (nI v &&& 31)) else df i := by
      intro hP i hi
      rw [hs i hi]
      by_cases e : i = k
      · subst e; simp [hP]
      · simp [show i < k + 1 ↔ i < k by omega]
    by_cases c : Ab dp w k = true
    · rw [if_pos ((lgc1 _).mpr c), forcesC (by rw [hA.1, h27]) hd (by rw [hA.1, h7]) hvn (by omega) hv, hsk]
      simp only [bnd]
      by_cases b : b32 (df k) v = true
      · rw [if_pos b]
        simp only [i10, if_false, nI_1]
        exact hnext s _ hA (by simp [cnt, c, b]) (keep (by simp [c, b]))
      · rw [if_neg b]
        simp only [if_true, inB_nI (show k < 60 by omega) (by omega), nI_cl (show k < 2 ^ 31 by omega), hsk, nI_1]
        refine hnext _ _ ⟨fun j => hA.1 j, fun j hj => ?_, hA.2.2⟩ (by simp [cnt, c, b]) (fun i hi => ?_)
        · simp only [uA_21, hj, if_false]; exact hA.2.1 j hj
        · simp only [uA_21, if_true, upd_j, nI_cl (show k < 2 ^ 31 by omega)]
          by_cases e : i = k
          · subst e; simp [c, b]
          · rw [if_neg e, hs i hi]; simp [show i < k + 1 ↔ i < k by omega]
    · rw [if_neg (fun e => c ((lgc1 _).mp e))]
      simp only [nI_1]
      exact hnext s _ hA (by simp [cnt, c]) (keep (by simp [c]))
theorem forceM_loop {n : Nat} (hn : 100000 ≤ n) {sC sM : StT} {dn : Nat} {dp : Nat → Nat} {df : Nat → Int32} (h : RelD sC sM dn dp df) {w v : Nat} (hw : w < dn) (hv : v < 24) : ∀ (d k fu : Nat) (s : StT), k + d = dn → w ≤ k → d < fu → AgM sM s → (∀ i, i < dn → s.2.1 54 i = if i < k ∧ (Ab dp w i && !b32 (df i) v) = true then df i ||| ((1 : Int32) <<< (nI v &&& 31)) else df i) → ∃ s' : StT, f_X12_force_31 n fu s (nI w) (nI v) (nI (cnt (fun i => Ab dp w i && !b32 (df i) v) k)) (nI k) = some (nI (cnt (fun i => Ab dp w i && !b32 (df i) v) dn), s') ∧ AgM sM s' ∧ ∀ i, i < dn → s'.2.1 54 i = if (Ab dp w i && !b32 (df i) v) = true then df i ||| ((1 : Int32) <<< (nI v &&& 31)) else df i := by
  obtain ⟨h1, h2, h3, h4, h5, h6, h7, h8⟩ := id h
  intro d
  induction d with
  | zero =>
    intro k fu s hk hwk hfu hA hs
    obtain ⟨fu, rfl⟩ : ∃ q, fu = q + 1 := ⟨fu - 1, by omega⟩
    rw [f_X12_force_31, hA.1, h4, if_pos ((nI_leI (by omega) (by omega)).mpr (by omega))]
    refine ⟨s, by rw [show dn = k by omega], hA, fun i hi => ?_⟩
    rw [hs i hi]
    simp [show i < k by omega]
  | succ d ih =>
    intro k fu s hk hwk hfu hA hs
    obtain ⟨fu, rfl⟩ : ∃ q, fu = q + 1 := ⟨fu - 1, by omega⟩
    have hc := cnt_le (fun i => Ab dp w i && !b32 (df i) v) k
    have hsk : s.2.1 54 k = df k := by rw [hs k (by omega)]; simp
    have hR : RelD (uF sC 27 (nI dn)) s dn dp (fun i => s.2.1 54 i) ∨ True := Or.inr trivial
    have hO : f_X12_isOver n s (nI k) (nI w) = some (if Ab dp w k = true then 1 else 0, s) := by
      unfold f_X12_isOver
      have hs2 : RelD (uA (uF sC 27 (nI dn)) 43 0 (s.2.1 54 0)) s dn dp (fun i => s.2.1 54 i) → f_X12_isOver_2 n n s (nI w) (nI k) = some (if Ab dp w k = true then 1 else 0, s) := fun hR => isOverM hR hw k n (by omega) (by omega)
      refine isOverM (sC := ((fun j => if j = 27 then nI dn else sC.1 j), (fun j => if j = 43 then s.2.1 54 else sC.2.1 j), sC.2.2)) (df := fun i => s.2.1 54 i) ⟨h1, h2, rfl, by rw [hA.1, h4], fun w _ => ⟨rfl, rfl⟩, h6, by rw [hA.2.1 53 (by decide)]; exact h7, fun a a1 a2 => ⟨(h8 a a1 a2).1, by rw [hA.2.1 53 (by decide)]; exact (h8 a a1 a2).2.1, (h8 a a1 a2).2.2⟩⟩ hw k n (by omega) (by omega)
    have hnext : ∀ (s2 : StT) (q : Nat), AgM sM s2 → q = cnt (fun i => Ab dp w i && !b32 (df i) v) (k + 1) → (∀ i, i < dn → s2.2.1 54 i = if i < k + 1 ∧ (Ab dp w i && !b32 (df i) v) = true then df i ||| ((1 : Int32) <<< (nI v &&& 31)) else df i) → ∃ s' : StT, f_X12_force_31 n fu s2 (nI w) (nI v) (nI q) (nI (k + 1)) = some (nI (cnt (fun i => Ab dp w i && !b32 (df i) v) dn), s') ∧ AgM sM s' ∧ ∀ i, i < dn → s'.2.1 54 i = if (Ab dp w i && !b32 (df i) v) = true then df i ||| ((1 : Int32) <<< (nI v &&& 31)) else df i := by
      intro s2 q h1 h2 h3
      subst h2
      exact ih (k + 1) fu s2 (by omega) (by omega) (by omega) h1 h3
    rw [f_X12_force_31, hA.1, h4, if_neg (fun e => absurd ((nI_leI (by omega) (by omega)).mp e) (by omega)), hO]
    simp only [bnd]
    have keep : (Ab dp w k && !b32 (df k) v) = false → ∀ i, i < dn → s.2.1 54 i = if i < k + 1 ∧ (Ab dp w i && !b32 (df i) v) = true then df i ||| ((1 : Int32) <<< (nI v &&& 31)) else df i := by
      intro hP i hi
      rw [hs i hi]
      by_cases e : i = k
      · subst e; simp [hP]
      · simp [show i < k + 1 ↔ i < k by omega]
    by_cases c : Ab dp w k = true
    · rw [if_pos c]
      simp only [i10, if_false, inB_nI (show k < 60 by omega) (by omega), if_true, nI_cl (show k < 2 ^ 31 by omega), hsk, tst32s _ (show v < 32 by omega), nI_1]
      by_cases b : b32 (df k) v = true
      · rw [if_pos b]
        simp only [i10, if_false]
        exact hnext s _ hA (by simp [cnt, c, b]) (keep (by simp [c, b]))
      · rw [if_neg b]
        simp only [if_true]
        refine hnext _ _ ⟨fun j => hA.1 j, fun j hj => ?_, hA.2.2⟩ (by simp [cnt, c, b]) (fun i hi => ?_)
        · simp only [uA_21, hj, if_false]; exact hA.2.1 j hj
        · simp only [uA_21, if_true, upd_j, nI_cl (show k < 2 ^ 31 by omega)]
          by_cases e : i = k
          · subst e; simp [c, b]
          · rw [if_neg e, hs i hi]; simp [show i < k + 1 ↔ i < k by omega]
    · rw [if_neg c]
      simp only [if_true, nI_1]
      exact hnext s _ hA (by simp [cnt, c]) (keep (by simp [c]))
theorem op_force {n : Nat} (hn : 100000 ≤ n) {sC sM : StT} {dn vn : Nat} {dp : Nat → Nat} {df : Nat → Int32} (h : RelD sC sM dn dp df) (hC7 : sC.1 7 = nI vn) (hM2 : sM.1 2 = nI vn) (hvn : vn ≤ 24) (x y : Int32) : ∃ (r : Int32) (sC' sM' : StT) (df' : Nat → Int32), f_X11_force n sC x y = some (r, sC') ∧ f_X12_force n sM x y = some (r, sM') ∧ RelD sC' sM' dn dp df' ∧ AgC sC sC' ∧ AgM sM sM' := by
  obtain ⟨h1, h2, h3, h4, h5, h6, h7, h8⟩ := id h
  have rC : AgC sC sC := ⟨fun _ => rfl, fun _ _ => rfl, rfl⟩
  have rM : AgM sM sM := ⟨fun _ => rfl, fun _ _ => rfl, rfl⟩
  unfold f_X11_force f_X12_force
  by_cases hx : x < 0
  · rw [hasD_neg hx, if_pos hx]
    simp only [bnd, if_true]
    exact ⟨_, _, _, df, rfl, rfl, h, rC, rM⟩
  obtain ⟨w, hw31, rfl⟩ := nI_of hx
  rw [if_neg hx, hasD h3 h2 hw31, h4]
  by_cases c : w < dn
  · rw [if_pos c, if_neg (fun e => absurd ((nI_leI (by omega) hw31).mp e) (by omega))]
    simp only [bnd, i10, if_false]
    by_cases hy : y < 0
    · rw [hasV_neg hy, if_pos hy]
      simp only [bnd, if_true]
      exact ⟨_, _, _, df, rfl, rfl, h, rC, rM⟩
    obtain ⟨v, hv31, rfl⟩ := nI_of hy
    rw [if_neg hy, hasV hC7 hvn hv31, hM2]
    by_cases cv : v < vn
    · rw [if_pos cv, if_pos ((nI_ltI hv31 (by omega)).mpr cv)]
      simp only [bnd, i10, if_false]
      unfold f_X9_forceAbove
      obtain ⟨m, e1, e2⟩ := aboveC hn h c
      rw [e1]
      simp only [bnd]
      have z1 : cnt (fun i => Ab dp w i && !b32 (df i) v) 0 = 0 := rfl
      have z2 : cnt (fun i => Ab dp w i && !b32 (df i) v) w = 0 := cnt_0 (fun k hk => by rw [Ab_le (by omega)]; simp; omega)
      obtain ⟨s1, a1, a2, a3⟩ := forceC_loop (n := n) (dp := dp) (df := df) h3 h2 hC7 hvn (w := w) (v := v) cv e2 dn 0 n sC (by omega) (by omega) rC (fun i hi => by simp [(h5 i hi).1])
      obtain ⟨s2, b1, b2, b3⟩ := forceM_loop hn h c (v := v) (by omega) (dn - w) w n sM (by omega) (by omega) (by omega) rM (fun i hi => by
        rw [(h5 i hi).2]
        by_cases q : i < w
        · rw [Ab_le (by omega)]; simp; omega
        · simp [q])
      rw [z1, nI_0] at a1
      rw [z2, nI_0] at b1
      rw [a1, b1]
      simp only [bnd]
      exact ⟨_, s1, s2, _, rfl, rfl, ⟨h1, h2, by rw [a2.1, h3], by rw [b2.1, h4], fun i hi => ⟨a3 i hi, b3 i hi⟩, by rw [a2.2.1 42 (by decide)]; exact h6, by rw [b2.2.1 53 (by decide)]; exact h7, fun i i1 i2 => ⟨by rw [a2.2.1 42 (by decide)]; exact (h8 i i1 i2).1, by rw [b2.2.1 53 (by decide)]; exact (h8 i i1 i2).2.1, (h8 i i1 i2).2.2⟩⟩, a2, b2⟩
    · rw [if_neg cv, if_neg (fun e => cv ((nI_ltI hv31 (by omega)).mp e))]
      simp only [bnd, if_true]
      exact ⟨_, _, _, df, rfl, rfl, h, rC, rM⟩
  · rw [if_neg c, if_pos ((nI_leI (by omega) hw31).mpr (by omega))]
    simp only [bnd, if_true]
    exact ⟨_, _, _, df, rfl, rfl, h, rC, rM⟩
