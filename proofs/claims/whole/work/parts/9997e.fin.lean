/-! ===== what a row forces; a new world; a world that is done ===== -/
def msk (t : FT) (fm : Nat → Nat) : Nat → Int32
  | 0 => 0
  | z + 1 => if t.2.1 (fm z) = 2 then msk t fm z ||| ((1 : Int32) <<< (nI (t.2.2.1 (fm z)) &&& 31)) else msk t fm z
theorem varsC_loop {n : Nat} {s : StT} {t : FT} {vn d z g : Nat} {fm tc : Nat → Nat} (hC : CFt s t) (hw : WFt t vn) (h : RC s d z fm tc g) (hd : d < 201) (hb : ∀ i, i < z → fm i < t.1) : ∀ (k i fu : Nat), i + k = z → k < fu → f_X5_variablesIn_4 n fu s (nI d) (msk t fm i) (nI i) = some (msk t fm z, s) := by
  have hz := h.2.1
  intro k
  induction k with
  | zero =>
    intro i fu hi hfu
    obtain ⟨fu, rfl⟩ : ∃ q, fu = q + 1 := ⟨fu - 1, by omega⟩
    rw [f_X5_variablesIn_4, sizeC h hd, Option.bind_some]
    simp only []
    rw [if_pos ((nI_leI (by omega) (by omega)).mpr (by omega)), show i = z by omega]
  | succ k ih =>
    intro i fu hi hfu
    obtain ⟨fu, rfl⟩ : ∃ q, fu = q + 1 := ⟨fu - 1, by omega⟩
    have hf := hb i (by omega)
    have hkb := hw.bd hf
    rw [f_X5_variablesIn_4, sizeC h hd, Option.bind_some]
    simp only []
    rw [if_neg (fun e => absurd ((nI_leI (by omega) (by omega)).mp e) (by omega)), (fAtC h hd (by omega)).1, Option.bind_some]
    simp only []
    rw [kindOfF0 hC hf, Option.bind_some]
    simp only []
    have e1 : msk t fm (i + 1) = if t.2.1 (fm i) = 2 then msk t fm i ||| ((1 : Int32) <<< (nI (t.2.2.1 (fm i)) &&& 31)) else msk t fm i := rfl
    by_cases c : t.2.1 (fm i) = 2
    · rw [if_pos (by rw [c]; rfl), firstOfF0 hC hf, Option.bind_some]
      simp only []
      rw [if_pos c] at e1
      rw [nI_1, ← e1]
      exact ih (i + 1) fu (by omega) (by omega)
    · rw [if_neg (show ¬ nI (t.2.1 (fm i)) = (2 : Int32) from fun e => c (nI_inj (b := 2) (by omega) (by omega) e))]
      rw [if_neg c] at e1
      rw [nI_1, ← e1]
      exact ih (i + 1) fu (by omega) (by omega)
theorem varsC {n : Nat} (hn : 100000 ≤ n) {s : StT} {t : FT} {vn d z g : Nat} {fm tc : Nat → Nat} (hC : CFt s t) (hw : WFt t vn) (h : RC s d z fm tc g) (hd : d < 201) (hb : ∀ i, i < z → fm i < t.1) : f_X5_variablesIn n s (nI d) = some (msk t fm z, s) := varsC_loop hC hw h hd hb z 0 n (by omega) (by have := h.2.1; omega)
theorem newW_loop {n : Nat} {s0 : StT} {t : FT} {vn d z g ar w : Nat} {fm tr md : Nat → Nat} (hM : MF s0 t) (hw : WFt t vn) (h : RM s0 d z fm tr md g ar) (hd : d < 201) (hb : ∀ i, i < z → fm i < t.1) (hw2 : w < 2100) : ∀ (k i fu : Nat) (s : StT), i + k = z → k < fu → s.1 = s0.1 → (∀ j, j ≠ 32 → s.2.1 j = s0.2.1 j) → (∀ r, r ≠ w → s.2.1 32 r = s0.2.1 32 r) → s.2.2 = s0.2.2 → s.2.1 32 w = msk t fm i → ∃ s', f_X12_newWorld_45 n fu s (nI d) (nI w) (nI i) = some (nI w, s') ∧ s'.1 = s0.1 ∧ (∀ j, j ≠ 32 → s'.2.1 j = s0.2.1 j) ∧ (∀ r, r ≠ w → s'.2.1 32 r = s0.2.1 32 r) ∧ s'.2.2 = s0.2.2 ∧ s'.2.1 32 w = msk t fm z := by
  have hz := h.2.1
  have hl := hw.2.1
  intro k
  induction k with
  | zero =>
    intro i fu s hi hfu e1 e2 e3 e4 e5
    obtain ⟨fu, rfl⟩ : ∃ q, fu = q + 1 := ⟨fu - 1, by omega⟩
    refine ⟨s, ?_, e1, e2, e3, e4, by rw [e5, show i = z by omega]⟩
    rw [f_X12_newWorld_45, inB_nI hd (by omega), if_pos rfl, nI_cl (by omega), e2 22 (by decide), h.1, if_pos ((nI_leI (by omega) (by omega)).mpr (by omega))]
  | succ k ih =>
    intro i fu s hi hfu e1 e2 e3 e4 e5
    obtain ⟨fu, rfl⟩ : ∃ q, fu = q + 1 := ⟨fu - 1, by omega⟩
    have hf := hb i (by omega)
    have hkb := hw.bd hf
    have hr := (h.2.2.2.2 i (by omega)).1
    have hk := hM.2 (fm i) hf
    rw [f_X12_newWorld_45, inB_nI hd (by omega), if_pos rfl, nI_cl (by omega), e2 22 (by decide), h.1, if_neg (fun e => absurd ((nI_leI (by omega) (by omega)).mp e) (by omega)), n60b, inB_nI (show 60 * d + i < 12060 by omega) (by omega), if_pos rfl, inB_nI hw2 (by omega), if_pos rfl, nI_cl (by omega), e2 19 (by decide), hr, inB_nI (show fm i < 4200 by omega) (by omega), if_pos rfl, nI_cl (by omega), e2 0 (by decide), hk.1, e2 1 (by decide), hk.2.1, nI_cl (by omega), e5]
    simp only [if_true, nI_1]
    have e1' : msk t fm (i + 1) = if t.2.1 (fm i) = 2 then msk t fm i ||| ((1 : Int32) <<< (nI (t.2.2.1 (fm i)) &&& 31)) else msk t fm i := rfl
    by_cases c : t.2.1 (fm i) = 2
    · rw [if_pos (by rw [c]; rfl)]
      rw [if_pos c] at e1'
      refine ih (i + 1) fu _ (by omega) (by omega) e1 (fun j hj => ?_) (fun r hr => ?_) e4 ?_
      · simp only [uA_21]; rw [if_neg hj]; exact e2 j hj
      · simp only [uA_21, if_true, upd_j, nI_cl (show w < 2 ^ 31 by omega)]; rw [if_neg hr]; exact e3 r hr
      · simp only [uA_21, if_true, upd_j, nI_cl (show w < 2 ^ 31 by omega)]; exact e1'.symm
    · rw [if_neg (show ¬ nI (t.2.1 (fm i)) = (2 : Int32) from fun e => c (nI_inj (b := 2) (by omega) (by omega) e))]
      rw [if_neg c] at e1'
      refine ih (i + 1) fu _ (by omega) (by omega) e1 (fun j hj => ?_) (fun r hr => ?_) e4 ?_
      · simp only [uA_21]; rw [if_neg hj]; exact e2 j hj
      · simp only [uA_21, if_true, upd_j, nI_cl (show w < 2 ^ 31 by omega)]; rw [if_neg hr]; exact e3 r hr
      · simp only [uA_21, if_true, upd_j, nI_cl (show w < 2 ^ 31 by omega), Int32.or_zero]; exact e1'.symm
theorem newW {n : Nat} (hn : 100000 ≤ n) {s : StT} {t : FT} {vn d z g ar w : Nat} {fm tr md : Nat → Nat} (hM : MF s t) (hw : WFt t vn) (h : RM s d z fm tr md g ar) (hd : d < 201) (hb : ∀ i, i < z → fm i < t.1) (h30 : s.1 30 = nI w) (hw2 : w < 2100) : ∃ s', f_X12_newWorld n s (nI d) = some (nI w, s') ∧ s'.1 30 = nI (w + 1) ∧ (∀ j, j ≠ 30 → s'.1 j = s.1 j) ∧ (∀ j, (j < 29 ∨ 32 < j) → s'.2.1 j = s.2.1 j) ∧ (∀ j i, 28 < j → j < 33 → i ≠ w → s'.2.1 j i = s.2.1 j i) ∧ s'.2.1 29 w = -1 ∧ s'.2.1 30 w = -1 ∧ s'.2.1 31 w = -1 ∧ s'.2.1 32 w = msk t fm z ∧ s'.2.2 = s.2.2 := by
  have hz := h.2.1
  generalize h0 : (uA (uA (uA (uA (uF s 30 (nI (w + 1))) 29 (nI w) (-1)) 30 (nI w) (-1)) 31 (nI w) (-1)) 32 (nI w) 0) = s0
  have a0 : ∀ j, (j < 29 ∨ 32 < j) → s0.2.1 j = s.2.1 j := fun j hj => by
    rw [← h0]; simp only [uA_21, uF_2]; rw [if_neg (by omega), if_neg (by omega), if_neg (by omega), if_neg (by omega)]
  have f0 : ∀ j, j ≠ 30 → s0.1 j = s.1 j := fun j hj => by rw [← h0]; simp only [uA_1, uF_1]; rw [if_neg hj]
  have hM0 : MF s0 t := ⟨by rw [f0 0 (by decide)]; exact hM.1, fun f hf => by rw [a0 0 (by decide), a0 1 (by decide), a0 2 (by decide)]; exact hM.2 f hf⟩
  have hr0 : RM s0 d z fm tr md g ar := ⟨by rw [a0 22 (by decide)]; exact h.1, hz, by rw [a0 23 (by decide)]; exact h.2.2.1, by rw [a0 24 (by decide)]; exact h.2.2.2.1, fun i hi => by rw [a0 19 (by decide), a0 20 (by decide), a0 21 (by decide)]; exact h.2.2.2.2 i hi⟩
  have rw4 : s0.2.1 29 w = -1 ∧ s0.2.1 30 w = -1 ∧ s0.2.1 31 w = -1 ∧ s0.2.1 32 w = 0 := by
    rw [← h0]
    simp only [uA_21, uF_2, if_true, if_neg (show ¬ (29 : Nat) = 30 by decide), if_neg (show ¬ (29 : Nat) = 31 by decide), if_neg (show ¬ (29 : Nat) = 32 by decide), if_neg (show ¬ (30 : Nat) = 31 by decide), if_neg (show ¬ (30 : Nat) = 32 by decide), if_neg (show ¬ (31 : Nat) = 32 by decide), upd_j, nI_cl (show w < 2 ^ 31 by omega)]
    exact ⟨trivial, trivial, trivial, trivial⟩
  have oth : ∀ j i, 28 < j → j < 33 → i ≠ w → s0.2.1 j i = s.2.1 j i := fun j i x y z => by
    rw [← h0]
    simp only [uA_21, uF_2]
    have e : ∀ (g : Nat → Int32) (v : Int32), upd g (nI w).toNatClampNeg v i = g i := fun g v => by rw [upd_j, nI_cl (by omega), if_neg z]
    repeat' split
    all_goals simp only [e]
  obtain ⟨s', e1, e2, e3, e4, e5, e6⟩ := newW_loop (n := n) hM0 hw hr0 hd hb hw2 z 0 n s0 (by omega) (by omega) rfl (fun _ _ => rfl) (fun _ _ => rfl) rfl rw4.2.2.2
  refine ⟨s', ?_, ?_, fun j hj => by rw [e2]; exact f0 j hj, fun j hj => by rw [e3 j (by omega)]; exact a0 j hj, fun j i x y z => ?_, by rw [e3 29 (by decide)]; exact rw4.1, by rw [e3 30 (by decide)]; exact rw4.2.1, by rw [e3 31 (by decide)]; exact rw4.2.2.1, e6, by rw [e5, ← h0]; rfl⟩
  · unfold f_X12_newWorld
    rw [h30, inB_nI hw2 (by omega), if_pos rfl, if_pos rfl, if_pos rfl, if_pos rfl, nI_1, h0]
    exact e1
  · rw [e2, ← h0]; rfl
  · by_cases c : j = 32
    · rw [c, e4 i z]; exact oth 32 i (by decide) (by decide) z
    · rw [e3 j c]; exact oth j i x y z
theorem WT.all {sC sM : StT} : ∀ (L : List WN), (∀ k, k ∈ L → ∃ h, WT sC sM h k) → ∃ H, ∀ k, k ∈ L → WT sC sM H k := by
  intro L
  induction L with
  | nil => intro _; exact ⟨0, fun k hk => absurd hk (List.not_mem_nil)⟩
  | cons p l ih =>
    intro hk
    obtain ⟨H, hH⟩ := ih (fun k hk2 => hk k (List.mem_cons_of_mem _ hk2))
    obtain ⟨h, hp⟩ := hk p (List.mem_cons_self ..)
    refine ⟨H + h, fun k hk2 => ?_⟩
    rcases List.mem_cons.mp hk2 with rfl | hk2
    · exact hp.mv (by omega) (fun _ _ _ _ _ => rfl) (fun _ _ _ => rfl) (fun _ _ _ _ _ => rfl) (fun _ _ _ _ => rfl)
    · exact (hH k hk2).mv (by omega) (fun _ _ _ _ _ => rfl) (fun _ _ _ => rfl) (fun _ _ _ _ _ => rfl) (fun _ _ _ _ => rfl)
/-- the class's new world -/
def aU (s : StT) (N e : Nat) (mk : Int32) (T : Nat) : StT := uF (uA (uA (uA (uA s 25 (nI N) mk) 26 (nI N) (s.2.1 29 e)) 27 (nI N) (-1)) 28 (nI N) (nI T)) 18 (nI (N + 1))
theorem addU_loop {n : Nat} {s sM : StT} {N e : Nat} {mk : Int32} (h : s.1 18 = nI N) (hN : N < 2000) (he : e < 200) : ∀ (L : List WN) (x y : Int32) (acc i fu : Nat), CHN s sM x y L → (∀ k, k ∈ L → k.2.1 < N ∧ s.2.1 28 k.2.1 = nI k.2.2.2.2.2) → i + L.length ≤ N → L.length < fu → f_X4_add_43 n fu s (nI e) mk (nI acc) x (nI i) = some (nI N, aU s N e mk (acc + sumT L)) := by
  intro L
  have e86 : ∀ acc, f_X4_add_86 n s (nI e) mk (nI acc) = some (nI N, aU s N e mk acc) := by
    intro acc
    unfold f_X4_add_86 aU
    simp only [h, inB_nI hN (by omega), inB_nI he (by omega), if_true, uA_1, uA_21, if_neg (show ¬ (29 : Nat) = 25 by decide), nI_cl (show e < 2 ^ 31 by omega), nI_1]
  induction L with
  | nil =>
    intro x y acc i fu hch _ hi hfu
    obtain ⟨fu, rfl⟩ : ∃ q, fu = q + 1 := ⟨fu - 1, by omega⟩
    rw [f_X4_add_43, hch.1, hasU_m1, Option.bind_some]
    simp only [if_true]
    rw [e86, ite_self]
    rfl
  | cons p l ih =>
    intro x y acc i fu hch hk hi hfu
    obtain ⟨fu, rfl⟩ : ∃ q, fu = q + 1 := ⟨fu - 1, by omega⟩
    have hl : (p :: l).length = l.length + 1 := rfl
    have hp := hk p (List.mem_cons_self ..)
    rw [f_X4_add_43, h, if_neg (fun e => absurd ((nI_leI (by omega) (by omega)).mp e) (by omega)), hch.1, hasU h (by omega) hp.1, Option.bind_some]
    simp only []
    rw [if_neg (by decide), inB_nI (show p.2.1 < 2000 by omega) (by omega), if_pos rfl, if_pos rfl, nI_cl (by omega), hp.2, nI_add, nI_1]
    have := ih _ _ (acc + p.2.2.2.2.2) (i + 1) fu hch.2.2 (fun k hk2 => hk k (List.mem_cons_of_mem _ hk2)) (by omega) (by omega)
    rw [this]
    have es : sumT (p :: l) = p.2.2.2.2.2 + sumT l := by unfold sumT; simp
    rw [es, Nat.add_assoc]
