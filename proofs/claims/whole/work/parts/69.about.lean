/-! ===== about ===== -/
theorem cnt_cut {P : Nat → Bool} {a : Nat} : ∀ {m : Nat}, a ≤ m → (∀ k, a ≤ k → k < m → P k = false) → cnt P m = cnt P a := by
  intro m
  induction m with
  | zero => intro h _; rw [show a = 0 by omega]
  | succ m ih =>
    intro h hz
    rcases Nat.eq_or_lt_of_le h with e | h2
    · rw [e]
    · rw [cnt, ih (by omega) (fun k h1 h3 => hz k h1 (by omega)), hz m (by omega) (by omega)]
      rfl
theorem aboutM_loop {n : Nat} (hn : 100000 ≤ n) {sC sM : StT} {dn : Nat} {dp : Nat → Nat} {df : Nat → Int32} (h : RelD sC sM dn dp df) {w : Nat} (hw : w < dn) : ∀ (d k fu : Nat), k + d = dn → d < fu → f_X12_about_72 n fu sM (nI w) (nI (cnt (Ab dp w) k)) (nI k) = some (nI (cnt (Ab dp w) dn), sM) := by
  obtain ⟨h1, h2, h3, h4, h5, h6, h7, h8⟩ := id h
  intro d
  induction d with
  | zero =>
    intro k fu hk hfu
    obtain ⟨fu, rfl⟩ : ∃ q, fu = q + 1 := ⟨fu - 1, by omega⟩
    rw [f_X12_about_72, h4, if_pos ((nI_leI (by omega) (by omega)).mpr (by omega)), show dn = k by omega]
  | succ d ih =>
    intro k fu hk hfu
    obtain ⟨fu, rfl⟩ : ∃ q, fu = q + 1 := ⟨fu - 1, by omega⟩
    rw [f_X12_about_72, h4, if_neg (fun e => absurd ((nI_leI (by omega) (by omega)).mp e) (by omega))]
    have hO : f_X12_isOver n sM (nI k) (nI w) = some (if Ab dp w k = true then 1 else 0, sM) := by
      unfold f_X12_isOver
      exact isOverM h hw k n (by omega) (by omega)
    rw [hO]
    simp only [bnd]
    have hi := ih (k + 1) fu (by omega) (by omega)
    by_cases c : Ab dp w k = true
    · rw [if_pos c]
      simp only [i10, if_false, nI_1]
      rw [cnt, if_pos c] at hi
      exact hi
    · rw [if_neg c]
      simp only [if_true, nI_1]
      rw [cnt, if_neg c] at hi
      rw [show (0 : Int32) = nI 0 from nI_0.symm, nI_add]
      exact hi
theorem op_about {n : Nat} (hn : 100000 ≤ n) {sC sM : StT} {dn vn : Nat} {dp : Nat → Nat} {df : Nat → Int32} (h : RelD sC sM dn dp df) (hC7 : sC.1 7 = nI vn) (hM2 : sM.1 2 = nI vn) (hvn : vn ≤ 24) (x y z : Int32) : ∃ r, f_X11_about n sC x y z = some (r, sC) ∧ f_X12_about n sM x y z = some (r, sM) := by
  obtain ⟨h1, h2, h3, h4, h5, h6, h7, h8⟩ := id h
  unfold f_X11_about f_X12_about
  by_cases hx : x < 0
  · rw [hasD_neg hx, if_pos hx]
    simp only [bnd, if_true]
    exact ⟨_, rfl, rfl⟩
  obtain ⟨w, hw31, rfl⟩ := nI_of hx
  rw [if_neg hx, hasD h3 h2 hw31, h4]
  by_cases c : w < dn
  · rw [if_pos c, if_neg (fun e => absurd ((nI_leI (by omega) hw31).mp e) (by omega))]
    simp only [bnd, i10, if_false]
    have main : (y = 1 → ∃ v, v < vn ∧ z = nI v) → ∃ r, f_X11_about_29 n sC (nI w) y z = some (r, sC) ∧ f_X12_about_31 n sM (nI w) y z = some (r, sM) := by
      intro hv
      unfold f_X11_about_29 f_X12_about_31
      by_cases y0 : y = 0
      · rw [if_pos y0, if_pos y0]
        unfold f_X9_parentOf
        rw [hasD h3 h2 hw31, if_pos c]
        simp only [bnd, i10, if_false]
        rw [inB_nI (show w < 60 by omega) (by omega), if_pos rfl, if_pos rfl, nI_cl hw31]
        simp only [bnd]
        rcases Nat.eq_zero_or_pos w with e | e
        · subst e; rw [h6, h7]; exact ⟨_, rfl, rfl⟩
        · rw [(h8 w e c).1, (h8 w e c).2.1]; exact ⟨_, rfl, rfl⟩
      rw [if_neg y0, if_neg y0]
      by_cases y1 : y = 1
      · rw [if_pos y1, if_pos y1]
        obtain ⟨v, hvv, rfl⟩ := hv y1
        rw [forcesC h3 h2 hC7 hvn c hvv, inB_nI (show w < 60 by omega) (by omega), if_pos rfl, nI_cl hw31, tst32s _ (show v < 32 by omega), (h5 w c).1, (h5 w c).2]
        simp only [bnd]
        by_cases b : b32 (df w) v = true
        · rw [if_pos b]; simp only [i10, if_false]; exact ⟨_, rfl, rfl⟩
        · rw [if_neg b]; simp only [if_true]; exact ⟨_, rfl, rfl⟩
      rw [if_neg y1, if_neg y1]
      by_cases y2 : y = 2
      · rw [if_pos y2, if_pos y2]
        obtain ⟨m, e1, e2⟩ := aboveC hn h c
        rw [e1]
        simp only [bnd]
        rw [bitCount64]
        simp only [bnd]
        have hc : cnt (fun i => b64 m i) 64 = cnt (Ab dp w) dn := by
          rw [cnt_cut (a := dn) (by omega) (fun k k1 k2 => by rw [e2 k k2]; simp [show ¬ k < dn by omega])]
          exact cnt_congr (fun i hi => by rw [e2 i (by omega)]; simp [hi])
        have hz : cnt (Ab dp w) w = 0 := cnt_0 (fun k hk => by rw [Ab_le (by omega)]; simp; omega)
        have hl := aboutM_loop hn h c (dn - w) w n (by omega) (by omega)
        rw [hz, nI_0] at hl
        rw [hl, hc]
        exact ⟨_, rfl, rfl⟩
      rw [if_neg y2, if_neg y2]
      exact ⟨_, rfl, rfl⟩
    by_cases y1 : y = 1
    · rw [if_pos y1, if_pos y1]
      by_cases hz : z < 0
      · rw [hasV_neg hz, if_pos hz]
        simp only [bnd, if_true]
        exact ⟨_, rfl, rfl⟩
      obtain ⟨v, hv31, rfl⟩ := nI_of hz
      rw [if_neg hz, hasV hC7 hvn hv31, hM2]
      by_cases cv : v < vn
      · rw [if_pos cv, if_pos ((nI_ltI hv31 (by omega)).mpr cv)]
        simp only [bnd, i10, if_false]
        exact main (fun _ => ⟨v, cv, rfl⟩)
      · rw [if_neg cv, if_neg (fun e => cv ((nI_ltI hv31 (by omega)).mp e))]
        simp only [bnd, if_true]
        exact ⟨_, rfl, rfl⟩
    · rw [if_neg y1, if_neg y1]
      exact main (fun e => absurd e y1)
  · rw [if_neg c, if_pos ((nI_leI (by omega) hw31).mpr (by omega))]
    simp only [bnd, if_true]
    exact ⟨_, rfl, rfl⟩
