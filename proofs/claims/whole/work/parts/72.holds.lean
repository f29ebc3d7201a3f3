/-! ===== holds ===== -/
def AgV (q : Nat) (s s' : StT) : Prop := s'.1 = s.1 ∧ s'.2.1 = s.2.1 ∧ s'.2.2.1 = s.2.2.1 ∧ ∀ j, j ≠ q → s'.2.2.2 j = s.2.2.2 j
theorem AgV.rf (q : Nat) (s : StT) : AgV q s s := ⟨rfl, rfl, rfl, fun _ _ => rfl⟩
theorem AgV.up {q : Nat} {s s' : StT} (h : AgV q s s') (i : Int32) (v : Int64) : AgV q s (uM s' q i v) := ⟨h.1, h.2.1, h.2.2.1, fun j hj => by simp only [uM_222, hj, if_false]; exact h.2.2.2 j hj⟩
theorem updL_j (f : Nat → Int64) (k : Nat) (v : Int64) (j : Nat) : vp_updL f k v j = if j = k then v else f j := rfl
theorem valueOfC {n : Nat} {s : StT} {i : Nat} (hi : i < 2000) : f_X2_valueOf n s (nI i) = some (s.2.2.2 2 i, s) := by
  unfold f_X2_valueOf f_X2_isPart
  rw [if_neg (nI_nneg (by omega)), if_neg (show ¬ (2000 : Int32) ≤ nI i from fun e => absurd ((nI_leI (a := 2000) (by omega) (by omega)).mp e) (by omega))]
  simp only [bnd, i10, if_false]
  rw [inB_nI hi (by omega), if_pos rfl, nI_cl (by omega)]
theorem forcingC {n : Nat} {s : StT} {dn vn : Nat} (h27 : s.1 27 = nI dn) (hd : dn ≤ 60) (h7 : s.1 7 = nI vn) (hvn : vn ≤ 24) {v : Nat} (hv : v < vn) : ∀ (d k fu : Nat) (m : Int64), k + d = dn → d < fu → (∀ j, j < 64 → b64 m j = (decide (j < k) && b32 (s.2.1 43 j) v)) → ∃ m' : Int64, f_X9_forcing_5 n fu s (nI v) m (nI k) = some (m', s) ∧ ∀ j, j < dn → b64 m' j = b32 (s.2.1 43 j) v := by
  intro d
  induction d with
  | zero =>
    intro k fu m hk hfu hm
    obtain ⟨fu, rfl⟩ : ∃ q, fu = q + 1 := ⟨fu - 1, by omega⟩
    rw [f_X9_forcing_5, h27, if_pos ((nI_leI (by omega) (by omega)).mpr (by omega))]
    exact ⟨m, rfl, fun j hj => by rw [hm j (by omega)]; simp [show j < k by omega]⟩
  | succ d ih =>
    intro k fu m hk hfu hm
    obtain ⟨fu, rfl⟩ : ∃ q, fu = q + 1 := ⟨fu - 1, by omega⟩
    rw [f_X9_forcing_5, h27, if_neg (fun e => absurd ((nI_leI (by omega) (by omega)).mp e) (by omega)), if_neg (show ¬ (60 : Int32) ≤ nI k from fun e => absurd ((nI_leI (a := 60) (by omega) (by omega)).mp e) (by omega)), forcesC h27 hd h7 hvn (by omega) hv]
    simp only [bnd, nI_1]
    by_cases b : b32 (s.2.1 43 k) v = true
    · rw [if_pos b]
      simp only [i10, if_false]
      refine ih (k + 1) fu _ (by omega) (by omega) (fun j hj => ?_)
      rw [b64_or, b64_shl (by omega) hj, hm j hj]
      by_cases e : j = k
      · subst e; simp [b]
      · have : (decide (j < k + 1)) = decide (j < k) := by simp; omega
        rw [this]; simp [e]
    · rw [if_neg b]
      simp only [if_true]
      refine ih (k + 1) fu _ (by omega) (by omega) (fun j hj => ?_)
      rw [hm j hj]
      by_cases e : j = k
      · subst e; simp [b]
      · have : (decide (j < k + 1)) = decide (j < k) := by simp; omega
        rw [this]
theorem tst32e (w : Int32) {j : Nat} (hj : j < 32) : (w >>> (nI j &&& 31)).toInt64 &&& 1 = if b32 w j = true then 1 else 0 := by
  have h := tst32s w hj
  rw [low32] at h
  have h2 : (w >>> (nI j &&& 31)).toBitVec.getLsbD 0 = b32 w j := by
    generalize (w >>> (nI j &&& 31)).toBitVec.getLsbD 0 = p at h ⊢
    cases p <;> cases h4 : b32 w j <;> simp [h4] at h ⊢
  rw [low64, ← h2]
  have h5 : ((w >>> (nI j &&& 31)).toInt64).toBitVec.getLsbD 0 = (w >>> (nI j &&& 31)).toBitVec.getLsbD 0 := by
    rw [Int32.toBitVec_toInt64, BitVec.getLsbD_signExtend]
    simp
  rw [h5]
theorem shl_bit (b : Bool) {k j : Nat} (hk : k < 64) (hj : j < 64) : b64 ((if b = true then (1 : Int64) else 0) <<< ((nI k).toInt64 &&& 63)) j = (decide (j = k) && b) := by
  cases b with
  | true => simp [b64_shl hk hj]
  | false =>
    rw [if_neg (by decide)]
    have : (0 : Int64) <<< ((nI k).toInt64 &&& 63) = 0 := by simp
    rw [this, b64_0]; simp
theorem forcingM {n : Nat} {s : StT} {dn v k : Nat} {x1 x2 : Int32} (h36 : s.1 36 = nI dn) (hd : dn ≤ 60) (hk : k < 2000) (hv : s.2.1 1 k = nI v) (hv2 : v < 32) : ∀ (d w fu : Nat) (m : Int64), w + d = dn → d < fu → (∀ j, j < 64 → b64 m j = (decide (j < w) && b32 (s.2.1 54 j) v)) → ∃ m' : Int64, (∀ k29 : StT → Int32 → Int32 → Int32 → Option (Int32 × StT), f_X12_holds_77 n k29 fu s x1 x2 (nI k) m (nI w) = f_X12_holds_234 n k29 s x1 x2 (nI k) m') ∧ ∀ j, j < dn → b64 m' j = b32 (s.2.1 54 j) v := by
  intro d
  induction d with
  | zero =>
    intro w fu m hw hfu hm
    obtain ⟨fu, rfl⟩ : ∃ q, fu = q + 1 := ⟨fu - 1, by omega⟩
    refine ⟨m, fun k29 => ?_, fun j hj => by rw [hm j (by omega)]; simp [show j < w by omega]⟩
    rw [f_X12_holds_77, h36, if_pos ((nI_leI (by omega) (by omega)).mpr (by omega))]
  | succ d ih =>
    intro w fu m hw hfu hm
    obtain ⟨fu, rfl⟩ : ∃ q, fu = q + 1 := ⟨fu - 1, by omega⟩
    obtain ⟨m', e1, e2⟩ := ih (w + 1) fu (m ||| ((if b32 (s.2.1 54 w) v = true then (1 : Int64) else 0) <<< ((nI w).toInt64 &&& 63))) (by omega) (by omega) (fun j hj => by
      rw [b64_or, shl_bit _ (by omega) hj, hm j hj]
      by_cases e : j = w
      · subst e; simp
      · have : (decide (j < w + 1)) = decide (j < w) := by simp; omega
        rw [this]; simp [e])
    refine ⟨m', fun k29 => ?_, e2⟩
    rw [f_X12_holds_77, h36, if_neg (fun e => absurd ((nI_leI (by omega) (by omega)).mp e) (by omega)), inB_nI (show w < 60 by omega) (by omega), if_pos rfl, inB_nI (show k < 4200 by omega) (by omega), if_pos rfl, nI_cl (show k < 2 ^ 31 by omega), hv, tst32e _ hv2, nI_cl (show w < 2 ^ 31 by omega), nI_1]
    exact e1 k29
theorem leads_step {n fu : Nat} {s : StT} {a b x5 x7 : Int64} {m : Nat} (hm : m < 60) : f_X12_leadsIn_14 n (fu + 1) s a b x5 x7 (nI m) = if ((b64 a m && !b64 b m) || b64 x7 m) = true then f_X12_leadsIn_77 n (f_X12_leadsIn_14 n fu) s a b x5 x7 (nI m) else f_X12_leadsIn_14 n fu s a b (x5 ||| ((1 : Int64) <<< ((nI m).toInt64 &&& 63))) x7 (nI m + -1) := by
  rw [f_X12_leadsIn_14, if_neg (nI_nneg (by omega)), tst64s _ (by omega), tst64s _ (by omega)]
  unfold f_X12_leadsIn_46
  rw [tst64s _ (by omega)]
  cases ha : b64 a m <;> cases hb : b64 b m <;> cases hx : b64 x7 m <;> simp [lgc]
theorem below_leads {n : Nat} {sC sM s s' : StT} {dn : Nat} {dp : Nat → Nat} {df : Nat → Int32} (h : RelD sC sM dn dp df) (hs : s.2.1 = sC.2.1) (hs' : s'.2.1 = sM.2.1) {a b : Int64} : ∀ (m fu fu' : Nat) (x3 x5 x7 : Int64), m ≤ dn → m < fu → m < fu' → (∀ j, j < m → b64 x3 j = ((b64 a j && !b64 b j) || b64 x7 j)) → (∀ j, m ≤ j → j < dn → b64 x5 j = !b64 x3 j) → (∀ j, j < m → b64 x5 j = false) → ∃ r r' : Int64, f_X9_below_15 n fu s x3 (nI m - 1) = some (r, s) ∧ f_X12_leadsIn_14 n fu' s' a b x5 x7 (nI m - 1) = some (r', s') ∧ ∀ j, j < dn → b64 r' j = !b64 r j := by
  obtain ⟨h1, h2, h3, h4, h5, h6, h7, h8⟩ := id h
  intro m
  induction m with
  | zero =>
    intro fu fu' x3 x5 x7 hm hfu hfu' e1 e2 e3
    obtain ⟨fu, rfl⟩ : ∃ q, fu = q + 1 := ⟨fu - 1, by omega⟩
    obtain ⟨fu', rfl⟩ : ∃ q, fu' = q + 1 := ⟨fu' - 1, by omega⟩
    rw [nI_neg1, f_X9_below_15, if_pos (by decide), f_X12_leadsIn_14, if_pos m1_neg]
    exact ⟨_, _, rfl, rfl, fun j hj => e2 j (by omega) hj⟩
  | succ m ih =>
    intro fu fu' x3 x5 x7 hm hfu hfu' e1 e2 e3
    obtain ⟨fu, rfl⟩ : ∃ q, fu = q + 1 := ⟨fu - 1, by omega⟩
    obtain ⟨fu', rfl⟩ : ∃ q, fu' = q + 1 := ⟨fu' - 1, by omega⟩
    rw [nI_m1, leads_step (by omega), f_X9_below_15]
    have em1 : nI m + -1 = nI m - 1 := by rw [Int32.sub_eq_add_neg]
    have hbad := e1 m (by omega)
    have hset : ∀ j, m ≤ j → j < dn → ((b64 a m && !b64 b m) || b64 x7 m) = true → b64 x5 j = !b64 x3 j := by
      intro j hj1 hj2 hb
      rcases Nat.eq_or_lt_of_le hj1 with z | z
      · subst z; rw [hbad, hb, e3 _ (by omega)]; rfl
      · exact e2 j (by omega) hj2
    have hor : ∀ j, m ≤ j → j < dn → ¬ ((b64 a m && !b64 b m) || b64 x7 m) = true → b64 (x5 ||| ((1 : Int64) <<< ((nI m).toInt64 &&& 63))) j = !b64 x3 j := by
      intro j hj1 hj2 hb
      rw [b64_or, b64_shl (by omega) (by omega)]
      rcases Nat.eq_or_lt_of_le hj1 with z | z
      · subst z; rw [Bool.not_eq_true] at hb; rw [hbad, e3 _ (by omega), hb]; simp
      · rw [e2 j (by omega) hj2]; simp [show j ≠ m by omega]
    have hor2 : ∀ j, j < m → b64 (x5 ||| ((1 : Int64) <<< ((nI m).toInt64 &&& 63))) j = false := by
      intro j hj
      rw [b64_or, b64_shl (by omega) (by omega), e3 j (by omega)]; simp; omega
    rcases Nat.eq_zero_or_pos m with z | z
    · subst z
      rw [if_pos (show nI 0 ≤ 0 by decide), em1]
      obtain ⟨fu', rfl⟩ : ∃ q, fu' = q + 1 := ⟨fu' - 1, by omega⟩
      by_cases c : ((b64 a 0 && !b64 b 0) || b64 x7 0) = true
      · rw [if_pos c]
        unfold f_X12_leadsIn_77
        rw [if_pos (show nI 0 ≤ 0 by decide), em1, nI_neg1, f_X12_leadsIn_14, if_pos m1_neg]
        exact ⟨_, _, rfl, rfl, fun j hj => hset j (Nat.zero_le _) hj c⟩
      · rw [if_neg c, nI_neg1, f_X12_leadsIn_14, if_pos m1_neg]
        exact ⟨_, _, rfl, rfl, fun j hj => hor j (Nat.zero_le _) hj c⟩
    · have hp := h8 m z (by omega)
      have hnz : ¬ nI m ≤ 0 := fun e => absurd ((nI_leI (b := 0) (by omega) (by omega)).mp e) (by omega)
      rw [if_neg hnz, tst64u _ (by omega), hbad, em1]
      by_cases c : ((b64 a m && !b64 b m) || b64 x7 m) = true
      · rw [if_pos ((lgc1 _).mpr c), if_pos c, inB_nI (show m < 60 by omega) (by omega), if_pos rfl]
        unfold f_X12_leadsIn_77
        rw [if_neg hnz, inB_nI (show m < 60 by omega) (by omega), if_pos rfl, em1, nI_cl (by omega), hs, hs', hp.1, hp.2.1]
        refine ih fu fu' _ _ _ (by omega) (by omega) (by omega) (fun j hj => ?_) (fun j hj1 hj2 => ?_) (fun j hj => e3 j (by omega))
        · rw [b64_or, b64_or, e1 j (by omega), Bool.or_assoc]
        · rw [hset j hj1 hj2 c, b64_or, b64_shl (by omega) (by omega)]; simp [show j ≠ dp m by omega]
      · rw [if_neg (fun e => c ((lgc1 _).mp e)), if_neg c]
        exact ih fu fu' _ _ _ (by omega) (by omega) (by omega) (fun j hj => e1 j (by omega)) (fun j hj1 hj2 => hor j hj1 hj2 c) hor2
theorem valueIn {n : Nat} (hn : 100000 ≤ n) {sC sM s s' : StT} {t : FT} {vn dn k : Nat} {dp : Nat → Nat} {df : Nat → Int32} {x1 x2 : Int32} (h : RelD sC sM dn dp df) (hs0 : s.1 = sC.1) (hs0' : s'.1 = sM.1) (hs : s.2.1 = sC.2.1) (hs' : s'.2.1 = sM.2.1) (hC : CFt s t) (hM : MF s' t) (hw : WFt t vn) (h7 : s.1 7 = nI vn) (hk : k < t.1) (hv : 3 ≤ t.2.1 k → ∀ j, j < dn → b64 (s.2.2.2 2 (t.2.2.1 k)) j = b64 (s'.2.2.2 0 (t.2.2.1 k)) j ∧ b64 (s.2.2.2 2 (t.2.2.2 k)) j = b64 (s'.2.2.2 0 (t.2.2.2 k)) j) : ∃ vC vM : Int64, f_X2_valueIn_58 n s (nI k) = some (vC, s) ∧ (∀ fu, s'.2.1 55 k = 1 → ¬ x2 < nI k → f_X12_holds_29 n (fu + 1) s' x1 x2 (nI k) = f_X12_holds_234 n (f_X12_holds_29 n fu) s' x1 x2 (nI k) vM) ∧ ∀ j, j < dn → b64 vC j = b64 vM j := by
  obtain ⟨h1, h2, h3, h4, h5, h6, h7', h8⟩ := id h
  have hb := hw.2.1
  have bd := hw.bd hk
  have hMk := hM.2 k hk
  have hc31 : (nI k).toNatClampNeg = k := nI_cl (by omega)
  have hB := inB_nI (show k < 4200 by omega) (by omega)
  have hB2 := inB_nI (show k < 2000 by omega) (by omega)
  have hB3 := inB_nI (show t.2.2.1 k < 2000 by omega) (by omega)
  have hB4 := inB_nI (show t.2.2.2 k < 2000 by omega) (by omega)
  have hc1 : (nI (t.2.2.1 k)).toNatClampNeg = t.2.2.1 k := nI_cl (by omega)
  have hc2 : (nI (t.2.2.2 k)).toNatClampNeg = t.2.2.2 k := nI_cl (by omega)
  unfold f_X2_valueIn_58
  rw [kindOfF0 hC hk]
  simp only [bnd]
  have hsimp : t.2.1 k ≠ 2 → t.2.1 k ≠ 5 → ∀ vC, (if nI (t.2.1 k) = 1 then (-1 : Int64) else if nI (t.2.1 k) = 3 then s.2.2.2 2 (t.2.2.1 k) &&& s.2.2.2 2 (t.2.2.2 k) else if nI (t.2.1 k) = 4 then s.2.2.2 2 (t.2.2.1 k) ||| s.2.2.2 2 (t.2.2.2 k) else 0) = vC → f_X2_simpleValue n s (nI k) = some (vC, s) := by
    intro z1 z2 vC e
    unfold f_X2_simpleValue
    rw [firstOfF0 hC hk]
    simp only [bnd]
    rw [valueOfC (by omega)]
    simp only [bnd]
    rw [secondOfF0 hC hk]
    simp only [bnd]
    rw [valueOfC (by omega)]
    simp only [bnd]
    rw [kindOfF0 hC hk]
    simp only [bnd]
    rw [← e]
    split
    · rfl
    · split
      · rfl
      · split <;> rfl
  rcases (show t.2.1 k = 0 ∨ t.2.1 k = 1 ∨ t.2.1 k = 2 ∨ t.2.1 k = 3 ∨ t.2.1 k = 4 ∨ t.2.1 k = 5 by omega) with c | c | c | c | c | c
  · rw [c] at hsimp
    have := hsimp (by decide) (by decide) _ rfl
    rw [c, if_neg (by decide), if_neg (by decide), this]
    simp only [bnd]
    refine ⟨_, 0, rfl, fun fu hm hx => ?_, fun j hj => by rfl⟩
    rw [c] at hMk
    rw [f_X12_holds_29, if_neg hx]
    simp only [hB2, hc31, hm, hB, hMk.1, if_true, i10, if_false, show ((nI 0 : Int32) = 1) = False by simp [nI_0], show ((nI 0 : Int32) = 2) = False by simp [nI_0], show ((nI 0 : Int32) = 3) = False by simp [nI_0], show ((nI 0 : Int32) = 4) = False by simp [nI_0], show ((nI 0 : Int32) = 5) = False by simp [nI_0]]
  · rw [c] at hsimp
    have := hsimp (by decide) (by decide) _ rfl
    rw [c, if_neg (by decide), if_neg (by decide), this]
    simp only [bnd]
    refine ⟨_, -1, rfl, fun fu hm hx => ?_, fun j hj => by rfl⟩
    rw [c] at hMk
    rw [f_X12_holds_29, if_neg hx]
    simp only [hB2, hc31, hm, hB, hMk.1, if_true, i10, if_false, show ((nI 1 : Int32) = 1) = True by simp [nI]]
  · have k2 : 2 ≤ k := by
      rcases Nat.lt_or_ge k 2 with w | w
      · rcases (show k = 0 ∨ k = 1 by omega) with rfl | rfl
        · rw [hw.2.2.1.1] at c; omega
        · rw [hw.2.2.2.1.1] at c; omega
      · exact w
    have hv2 : t.2.2.1 k < vn := by
      rcases hw.2.2.2.2.2.1 k k2 hk with ⟨-, q2, -⟩ | ⟨q1, -, -, -⟩
      · exact q2
      · omega
    have hvn := hw.2.2.2.2.1
    rw [c, if_pos (by decide), firstOfF0 hC hk]
    simp only [bnd]
    obtain ⟨m1, a1, a2⟩ := forcingC (n := n) (s := s) (dn := dn) (by rw [hs0]; exact h3) h2 h7 hvn hv2 dn 0 n 0 (by omega) (by omega) (fun j hj => by rw [b64_0]; simp)
    obtain ⟨m2, b1, b2⟩ := forcingM (n := n) (s := s') (dn := dn) (v := t.2.2.1 k) (k := k) (x1 := x1) (x2 := x2) (by rw [hs0']; exact h4) h2 (by omega) hMk.2.1 (by omega) dn 0 n 0 (by omega) (by omega) (fun j hj => by rw [b64_0]; simp)
    unfold f_X9_forcing
    rw [← nI_0, a1]
    simp only [bnd]
    refine ⟨m1, m2, rfl, fun fu hm hx => ?_, fun j hj => ?_⟩
    · rw [c] at hMk
      rw [f_X12_holds_29, if_neg hx]
      simp only [hB2, hc31, hm, hB, hMk.1, if_true, i10, if_false, show ((nI 2 : Int32) = 1) = False by simp [nI], show ((nI 2 : Int32) = 2) = True by simp [nI]]
      rw [← nI_0]
      exact b1 _
    · rw [a2 j hj, b2 j hj, hs, hs', (h5 j hj).1, (h5 j hj).2]
  · rw [c] at hsimp
    have := hsimp (by decide) (by decide) _ rfl
    rw [c, if_neg (by decide), if_neg (by decide), this]
    simp only [bnd]
    refine ⟨_, s'.2.2.2 0 (t.2.2.1 k) &&& s'.2.2.2 0 (t.2.2.2 k), rfl, fun fu hm hx => ?_, fun j hj => ?_⟩
    · rw [c] at hMk
      rw [f_X12_holds_29, if_neg hx]
      simp only [hB2, hc31, hm, hB, hMk.1, hMk.2.1, hMk.2.2, hB3, hB4, hc1, hc2, if_true, i10, if_false, show ((nI 3 : Int32) = 1) = False by simp [nI], show ((nI 3 : Int32) = 2) = False by simp [nI], show ((nI 3 : Int32) = 3) = True by simp [nI]]
    · rw [if_neg (show ¬ ((nI 3 : Int32) = 1) by decide), if_pos (by decide), b64_and, b64_and, (hv (by omega) j hj).1, (hv (by omega) j hj).2]
  · rw [c] at hsimp
    have := hsimp (by decide) (by decide) _ rfl
    rw [c, if_neg (by decide), if_neg (by decide), this]
    simp only [bnd]
    refine ⟨_, s'.2.2.2 0 (t.2.2.1 k) ||| s'.2.2.2 0 (t.2.2.2 k), rfl, fun fu hm hx => ?_, fun j hj => ?_⟩
    · rw [c] at hMk
      rw [f_X12_holds_29, if_neg hx]
      simp only [hB2, hc31, hm, hB, hMk.1, hMk.2.1, hMk.2.2, hB3, hB4, hc1, hc2, if_true, i10, if_false, show ((nI 4 : Int32) = 1) = False by simp [nI], show ((nI 4 : Int32) = 2) = False by simp [nI], show ((nI 4 : Int32) = 3) = False by simp [nI], show ((nI 4 : Int32) = 4) = True by simp [nI]]
    · rw [if_neg (show ¬ ((nI 4 : Int32) = 1) by decide), if_neg (show ¬ ((nI 4 : Int32) = 3) by decide), if_pos (by decide), b64_or, b64_or, (hv (by omega) j hj).1, (hv (by omega) j hj).2]
  · rw [c, if_neg (by decide), if_pos (by decide)]
    unfold f_X2_failing
    rw [firstOfF0 hC hk]
    simp only [bnd]
    rw [valueOfC (by omega)]
    simp only [bnd]
    rw [secondOfF0 hC hk]
    simp only [bnd]
    rw [valueOfC (by omega)]
    simp only [bnd]
    obtain ⟨r, r', a1, a2, a3⟩ := below_leads (n := n) h hs hs' (a := s'.2.2.2 0 (t.2.2.1 k)) (b := s'.2.2.2 0 (t.2.2.2 k)) dn n n (s.2.2.2 2 (t.2.2.1 k) &&& (s.2.2.2 2 (t.2.2.2 k) ^^^ -1)) 0 0 (Nat.le_refl _) (by omega) (by omega) (fun j hj => by rw [b64_and, b64_not _ (by omega), (hv (by omega) j hj).1, (hv (by omega) j hj).2, b64_0, Bool.or_false]) (fun j hj1 hj2 => by omega) (fun j hj => b64_0 j)
    unfold f_X9_below
    rw [hs0, h3, if_neg (show ¬ (60 : Int32) < nI dn from fun e => absurd ((nI_ltI (a := 60) (by omega) (by omega)).mp e) (by omega)), a1]
    simp only [bnd]
    refine ⟨_, r', rfl, fun fu hm hx => ?_, fun j hj => ?_⟩
    · rw [c] at hMk
      rw [f_X12_holds_29, if_neg hx]
      simp only [hB2, hc31, hm, hB, hMk.1, hMk.2.1, hMk.2.2, hB3, hB4, hc1, hc2, if_true, i10, if_false, show ((nI 5 : Int32) = 1) = False by simp [nI], show ((nI 5 : Int32) = 2) = False by simp [nI], show ((nI 5 : Int32) = 3) = False by simp [nI], show ((nI 5 : Int32) = 4) = False by simp [nI], show ((nI 5 : Int32) = 5) = True by simp [nI]]
      unfold f_X12_leadsIn
      rw [hs0', h4, a2]
      rfl
    · rw [b64_not _ (by omega), a3 j hj]
/-- both loops over the parts -/
theorem holds_loop {n : Nat} (hn : 100000 ≤ n) {sC sM sC1 sM1 : StT} {t : FT} {vn dn f w : Nat} {dp : Nat → Nat} {df : Nat → Int32} (h : RelD sC sM dn dp df) (hC0 : sC1.1 = sC.1) (hM0 : sM1.1 = sM.1) (hD : RelD sC1 sM1 dn dp df) (hC : CFt sC1 t) (hM : MF sM1 t) (hw : WFt t vn) (h7 : sC1.1 7 = nI vn) (hf : f < t.1) (hwd : w < dn) (mC : ∀ k, k ≤ f → sC1.2.1 41 k = mI (prt t f k)) (mM : ∀ k, k ≤ f → sM1.2.1 55 k = mI (prt t f k)) : ∀ (d k fu fu' : Nat) (s s' : StT), k + d = f + 1 → d < fu → d < fu' → AgV 2 sC1 s → AgV 0 sM1 s' → (∀ i, i < k → prt t f i = true → ∀ j, j < dn → b64 (s.2.2.2 2 i) j = b64 (s'.2.2.2 0 i) j) → ∃ (vC : Int64) (r : Int32) (s2 s2' : StT), f_X2_inWorlds_58_8 n fu s (nI f) (nI k) = some (vC, s2) ∧ f_X12_holds_29 n fu' s' (nI w) (nI f) (nI k) = some (r, s2') ∧ AgV 2 sC1 s2 ∧ AgV 0 sM1 s2' ∧ r = if b64 vC w = true then 1 else 0 := by
  have hb := hw.2.1
  intro d
  induction d with
  | zero =>
    intro k fu fu' s s' hk hfu hfu' a1 a2 hv
    obtain ⟨fu, rfl⟩ : ∃ q, fu = q + 1 := ⟨fu - 1, by omega⟩
    obtain ⟨fu', rfl⟩ : ∃ q, fu' = q + 1 := ⟨fu' - 1, by omega⟩
    have c : nI f < nI k := (nI_ltI (by omega) (by omega)).mpr (by omega)
    rw [f_X2_inWorlds_58_8, if_pos c, valueOfC (by omega), f_X12_holds_29, if_pos c, inB_nI (show f < 2000 by omega) (by omega), if_pos rfl, nI_cl (by omega)]
    simp only [bnd]
    have hd60 := h.2.1
    refine ⟨_, _, _, _, rfl, rfl, a1, a2, ?_⟩
    rw [tst64s _ (by omega), hv f (by omega) (by unfold prt; exact mks_f t f _) w hwd]
    split <;> rfl
  | succ d ih =>
    intro k fu fu' s s' hk hfu hfu' a1 a2 hv
    obtain ⟨fu, rfl⟩ : ∃ q, fu = q + 1 := ⟨fu - 1, by omega⟩
    obtain ⟨fu', rfl⟩ : ∃ q, fu' = q + 1 := ⟨fu' - 1, by omega⟩
    have c : ¬ nI f < nI k := fun e => absurd ((nI_ltI (by omega) (by omega)).mp e) (by omega)
    have hB := inB_nI (show k < 2000 by omega) (by omega)
    have hm1 : s.2.1 41 k = mI (prt t f k) := by rw [a1.2.1]; exact mC k (by omega)
    have hm2 : s'.2.1 55 k = mI (prt t f k) := by rw [a2.2.1]; exact mM k (by omega)
    rw [f_X2_inWorlds_58_8, if_neg c, if_neg (show ¬ (2000 : Int32) ≤ nI k from fun e => absurd ((nI_leI (a := 2000) (by omega) (by omega)).mp e) (by omega)), hB, if_pos rfl, nI_cl (by omega), hm1]
    by_cases p : prt t f k = true
    · have hsC : CFt s t := CFt.ag (by rw [a1.1]) (by rw [a1.2.1]) (by rw [a1.2.1]) (by rw [a1.2.1]) (by rw [a1.2.1]) (by rw [a1.2.1]) hC
      have hsM : MF s' t := MF.ag (by rw [a2.1]) (by rw [a2.2.1]) (by rw [a2.2.1]) (by rw [a2.2.1]) hM
      obtain ⟨vC, vM, e1, e2, e3⟩ := valueIn (n := n) hn (x1 := nI w) (x2 := nI f) hD a1.1 a2.1 a1.2.1 a2.2.1 hsC hsM hw (by rw [a1.1]; exact h7) (show k < t.1 by omega) (fun h3 j hj => by
        have k2 : 2 ≤ k := by
          rcases Nat.lt_or_ge k 2 with q | q
          · rcases (show k = 0 ∨ k = 1 by omega) with rfl | rfl
            · rw [hw.2.2.1.1] at h3; omega
            · rw [hw.2.2.2.1.1] at h3; omega
          · exact q
        have pp := prt_parts hw hf (by omega) p h3
        rcases hw.2.2.2.2.2.1 k k2 (by omega) with ⟨q1, -, -⟩ | ⟨-, -, q3, q4⟩
        · omega
        · exact ⟨hv _ (by omega) pp.1 j hj, hv _ (by omega) pp.2 j hj⟩)
      rw [p] at hm2
      rw [p, show mI true = 1 from rfl, if_pos rfl, e1, e2 fu' hm2 c]
      simp only [bnd]
      unfold f_X12_holds_234
      simp only [if_true, hB, nI_1]
      refine ih (k + 1) fu fu' _ _ (by omega) (by omega) (by omega) (a1.up _ _) (a2.up _ _) (fun i hi hp j hj => ?_)
      simp only [uM_222, if_true, updL_j, nI_cl (show k < 2 ^ 31 by omega)]
      by_cases e : i = k
      · rw [if_pos e, if_pos e]; exact e3 j hj
      · rw [if_neg e, if_neg e]; exact hv i (by omega) hp j hj
    · have p' : prt t f k = false := by simpa using p
      rw [p'] at hm2
      rw [p', show mI false = 0 from rfl, if_neg (by decide), f_X12_holds_29, if_neg c, hB, if_pos rfl, nI_cl (by omega), hm2, if_pos (by rfl), nI_1]
      exact ih (k + 1) fu fu' s s' (by omega) (by omega) (by omega) a1 a2 (fun i hi hp j hj => by
        rcases Nat.eq_or_lt_of_le (Nat.lt_succ_iff.mp hi) with e | e
        · rw [e] at hp; exact absurd hp p
        · exact hv i e hp j hj)
def AgH (a q : Nat) (s s' : StT) : Prop := (∀ j, s'.1 j = s.1 j) ∧ (∀ j, j ≠ a → s'.2.1 j = s.2.1 j) ∧ s'.2.2.1 = s.2.2.1 ∧ ∀ j, j ≠ q → s'.2.2.2 j = s.2.2.2 j
theorem AgH.rf (a q : Nat) (s : StT) : AgH a q s s := ⟨fun _ => rfl, fun _ _ => rfl, rfl, fun _ _ => rfl⟩
theorem RelD.agH {sC sM sC' sM' : StT} {dn : Nat} {dp : Nat → Nat} {df : Nat → Int32} (h : RelD sC sM dn dp df) (c27 : sC'.1 27 = sC.1 27) (m36 : sM'.1 36 = sM.1 36) (c42 : sC'.2.1 42 = sC.2.1 42) (c43 : sC'.2.1 43 = sC.2.1 43) (m53 : sM'.2.1 53 = sM.2.1 53) (m54 : sM'.2.1 54 = sM.2.1 54) : RelD sC' sM' dn dp df := by
  unfold RelD at *
  rw [c27, m36, c42, c43, m53, m54]
  exact h
theorem op_holds {n : Nat} (hn : 100000 ≤ n) {sC sM : StT} {t : FT} {vn dn : Nat} {dp : Nat → Nat} {df : Nat → Int32} (h : RelD sC sM dn dp df) (hC : CFt sC t) (hM : MF sM t) (hw : WFt t vn) (h7 : sC.1 7 = nI vn) (x y : Int32) : ∃ (r : Int32) (sC' sM' : StT), f_X11_holds n sC x y = some (r, sC') ∧ f_X12_holds n sM x y = some (r, sM') ∧ AgH 41 2 sC sC' ∧ AgH 55 0 sM sM' := by
  obtain ⟨h1, h2, h3, h4, h5, h6, h7', h8⟩ := id h
  unfold f_X11_holds f_X12_holds
  by_cases hx : x < 0
  · rw [hasD_neg hx, if_pos hx]
    simp only [bnd, if_true]
    exact ⟨_, _, _, rfl, rfl, AgH.rf _ _ _, AgH.rf _ _ _⟩
  obtain ⟨w, hw31, rfl⟩ := nI_of hx
  rw [if_neg hx, hasD h3 h2 hw31, h4]
  by_cases c : w < dn
  · rw [if_pos c, if_neg (fun e => absurd ((nI_leI (by omega) hw31).mp e) (by omega))]
    simp only [bnd, i10, if_false]
    rcases both_has (n := n) hC.1 hM.1 hw.2.1 y with ⟨f, hf, rfl, e1, e2⟩ | ⟨e1, e2⟩
    · rw [e1, e2]
      simp only [bnd, i10, if_false]
      obtain ⟨sC1, vm, a1, a2, a3, -⟩ := markAllC hn hC hw hf
      obtain ⟨sM1, b1, b2, b3⟩ := needM hn hM hw hf
      unfold f_X2_inWorlds_58
      rw [a1, b1]
      simp only [bnd]
      have hD1 : RelD sC1 sM1 dn dp df := h.agH (a2.1 _) (b2.1 _) (a2.2.1 _ (by decide)) (a2.2.1 _ (by decide)) (b2.2.1 _ (by decide)) (b2.2.1 _ (by decide))
      obtain ⟨vC, r, s2, s2', g1, g2, g3, g4, g5⟩ := holds_loop (n := n) hn h (funext a2.1) (funext b2.1) hD1 (hC.agP a2) (hM.agN b2) hw (by rw [a2.1]; exact h7) hf c a3 (fun k hk => b3 k (by omega)) (f + 1) 0 n n sC1 sM1 (by omega) (by have := hw.2.1; omega) (by have := hw.2.1; omega) (AgV.rf _ _) (AgV.rf _ _) (fun i hi => by omega)
      rw [nI_0] at g1 g2
      rw [g1, g2]
      simp only [bnd]
      rw [tst64u _ (by omega)]
      have fC : AgH 41 2 sC s2 := ⟨fun j => by rw [g3.1]; exact a2.1 j, fun j hj => by rw [g3.2.1]; exact a2.2.1 j hj, by rw [g3.2.2.1, a2.2.2], fun j hj => by rw [g3.2.2.2 j hj, a2.2.2]⟩
      have fM : AgH 55 0 sM s2' := ⟨fun j => by rw [g4.1]; exact b2.1 j, fun j hj => by rw [g4.2.1]; exact b2.2.1 j hj, by rw [g4.2.2.1, b2.2.2], fun j hj => by rw [g4.2.2.2 j hj, b2.2.2]⟩
      refine ⟨r, s2, s2', ?_, rfl, fC, fM⟩
      rw [g5]
      by_cases bb : b64 vC w = true
      · rw [if_pos ((lgc1 _).mpr bb), if_pos bb]
      · rw [if_neg (fun e => bb ((lgc1 _).mp e)), if_neg bb]
    · rw [e1, e2]
      simp only [bnd, if_true]
      exact ⟨_, _, _, rfl, rfl, AgH.rf _ _ _, AgH.rf _ _ _⟩
  · rw [if_neg c, if_pos ((nI_leI (by omega) hw31).mpr (by omega))]
    simp only [bnd, if_true]
    exact ⟨_, _, _, rfl, rfl, AgH.rf _ _ _, AgH.rf _ _ _⟩
