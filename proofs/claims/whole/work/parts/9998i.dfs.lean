/-! ===== refute: the reference lays the worlds, depth first ===== -/
def WL (sC sM : StT) (N : Nat) (par frc : Nat → Int32) : Nat → WN → Nat → Int32 → Prop
  | 0, _, _, _ => False
  | h + 1, p, b, u => par b = u ∧ frc b = sC.2.1 25 p.2.1 ∧ p.2.1 < N ∧ sC.2.1 28 p.2.1 = nI p.2.2.2.2.2 ∧ ∃ L : List WN, p.2.2.2.2.2 = 1 + sumT L ∧ CHN sC sM (sC.2.1 26 p.2.1) (sM.2.1 29 p.2.2.2.2.1) L ∧ ∀ A k B, L = A ++ k :: B → WL sC sM N par frc h k (b + 1 + sumT A) (nI b)
theorem sumT_cons (k : WN) (B : List WN) : sumT (k :: B) = k.2.2.2.2.2 + sumT B := by unfold sumT; rw [List.map_cons, List.sum_cons]
theorem sumT_nil : sumT ([] : List WN) = 0 := rfl
theorem sumT_mid (A B : List WN) (k : WN) : sumT (A ++ k :: B) = sumT A + k.2.2.2.2.2 + sumT B := by rw [sumT_ap2, sumT_cons]; omega
theorem WL.mv {sC sM : StT} {N : Nat} {par frc par' frc' : Nat → Int32} : ∀ {h : Nat} {p : WN} {b : Nat} {u : Int32}, WL sC sM N par frc h p b u → (∀ i, b ≤ i → i < b + p.2.2.2.2.2 → par' i = par i ∧ frc' i = frc i) → WL sC sM N par' frc' h p b u := by
  intro h
  induction h with
  | zero => intro p b u a; exact a.elim
  | succ h ih =>
    intro p b u a hf
    obtain ⟨a1, a2, a3, a4, L, a5, a6, a7⟩ := a
    have e := hf b (Nat.le_refl _) (by omega)
    refine ⟨by rw [e.1]; exact a1, by rw [e.2]; exact a2, a3, a4, L, a5, a6, fun A k B hL => ih (a7 A k B hL) (fun i h1 h2 => hf i (by omega) ?_)⟩
    rw [hL, sumT_mid] at a5
    omega
def ER (sM m : StT) : Prop := (∀ j, j ≠ 36 → m.1 j = sM.1 j) ∧ (∀ j, j ≠ 53 → j ≠ 54 → j ≠ 56 → j ≠ 57 → m.2.1 j = sM.2.1 j) ∧ m.2.2 = sM.2.2
theorem ER.f {sM m : StT} {x : Int32} (h : ER sM m) : ER sM (uF m 36 x) := ⟨fun j hj => by simp only [uF_1]; rw [if_neg hj]; exact h.1 j hj, h.2.1, h.2.2⟩
theorem ER.a {sM m : StT} {k : Nat} {i x : Int32} (h : ER sM m) (hk : k = 53 ∨ k = 54 ∨ k = 56 ∨ k = 57) : ER sM (uA m k i x) := ⟨h.1, fun j a b c d => by simp only [uA_21]; rw [if_neg (by omega)]; exact h.2.1 j a b c d, h.2.2⟩
theorem cnt115 {n : Nat} {sC sM st : StT} {k26 : StT → Int32 → Option (Int32 × StT)} {x1 x2 x3 : Int32} (hE : ER sM st) (h2 : inB x2 2100 = true) : ∀ (L : List WN) (c fu : Nat) (x y : Int32), CHN sC sM x y L → (∀ k, k ∈ L → k.2.2.2.2.1 < 2100) → L.length < fu → f_X12_refuted_115 n k26 fu st x1 x2 x3 (nI c) y = f_X12_refuted_151 n k26 n st x1 x3 (nI (c + L.length)) ((x1 + nI (c + L.length)) - 1) (sM.2.1 29 x2.toNatClampNeg) := by
  intro L
  induction L with
  | nil =>
    intro c fu x y hc _ hfu
    obtain ⟨fu, rfl⟩ := Nat.exists_eq_succ_of_ne_zero (show fu ≠ 0 by omega)
    rw [f_X12_refuted_115, hc.2, if_pos (show (-1 : Int32) < 0 by decide), if_pos h2, hE.2.1 29 (by decide) (by decide) (by decide) (by decide)]
    rfl
  | cons p l ih =>
    intro c fu x y hc hk hfu
    obtain ⟨fu, rfl⟩ := Nat.exists_eq_succ_of_ne_zero (show fu ≠ 0 by omega)
    have hlen : (p :: l).length = l.length + 1 := rfl
    have hp := hk p (List.mem_cons_self ..)
    rw [f_X12_refuted_115, hc.2.1, if_neg (nI_nneg (by omega)), inB_nI hp (by omega), if_pos rfl, nI_cl (show p.2.2.2.2.1 < 2 ^ 31 by omega), hE.2.1 31 (by decide) (by decide) (by decide) (by decide), nI_1, ih (c + 1) fu _ _ hc.2.2 (fun k hk2 => hk k (List.mem_cons_of_mem _ hk2)) (by omega), hlen, show c + 1 + l.length = c + (l.length + 1) by omega]
theorem lay151 {n : Nat} {sC sM : StT} {k26 : StT → Int32 → Option (Int32 × StT)} {x1 x3 x4 : Int32} {t : Nat} : ∀ (L : List WN) (fu : Nat) (x y : Int32) (m : StT), ER sM m → CHN sC sM x y L → (∀ k, k ∈ L → k.2.2.2.2.1 < 2100) → t + L.length ≤ 2100 → L.length < fu → ∃ m', f_X12_refuted_151 n k26 fu m x1 x3 x4 (nI (t + L.length) + (-1)) y = k26 m' (x1 + x4) ∧ ER sM m' ∧ m'.1 = m.1 ∧ m'.2.1 53 = m.2.1 53 ∧ m'.2.1 54 = m.2.1 54 ∧ (∀ i, (i < t ∨ t + L.length ≤ i) → m'.2.1 56 i = m.2.1 56 i ∧ m'.2.1 57 i = m.2.1 57 i) ∧ ∀ i k, L[i]? = some k → m'.2.1 56 (t + (L.length - 1 - i)) = nI k.2.2.2.2.1 ∧ m'.2.1 57 (t + (L.length - 1 - i)) = x3 := by
  intro L
  induction L with
  | nil =>
    intro fu x y m hE hc _ _ hfu
    obtain ⟨fu, rfl⟩ := Nat.exists_eq_succ_of_ne_zero (show fu ≠ 0 by omega)
    refine ⟨m, ?_, hE, rfl, rfl, rfl, fun _ _ => ⟨rfl, rfl⟩, fun i p hp => by simp at hp⟩
    rw [f_X12_refuted_151, hc.2, if_pos (show (-1 : Int32) < 0 by decide)]
  | cons p l ih =>
    intro fu x y m hE hc hk ht hfu
    obtain ⟨fu, rfl⟩ := Nat.exists_eq_succ_of_ne_zero (show fu ≠ 0 by omega)
    have hlen : (p :: l).length = l.length + 1 := rfl
    rw [hlen] at ht hfu ⊢
    have hp := hk p (List.mem_cons_self ..)
    have e19 : nI (t + (l.length + 1)) + (-1 : Int32) = nI (t + l.length) := by rw [show t + (l.length + 1) = t + l.length + 1 by omega, ← nI_1, Int32.add_assoc]; show nI (t + l.length) + 0 = nI (t + l.length); exact Int32.add_zero _
    generalize hm1 : uA (uA m 56 (nI (t + l.length)) (nI p.2.2.2.2.1)) 57 (nI (t + l.length)) x3 = m1
    have E1 : ER sM m1 := by rw [← hm1]; exact (hE.a (by decide)).a (by decide)
    have r56 : ∀ i, m1.2.1 56 i = if i = t + l.length then nI p.2.2.2.2.1 else m.2.1 56 i := fun i => by
      rw [← hm1]; simp only [uA_21, if_neg (show ¬ (56 : Nat) = 57 by decide), if_true, upd_j, nI_cl (show t + l.length < 2 ^ 31 by omega)]
    have r57 : ∀ i, m1.2.1 57 i = if i = t + l.length then x3 else m.2.1 57 i := fun i => by
      rw [← hm1]; simp only [uA_21, if_neg (show ¬ (57 : Nat) = 56 by decide), if_true, upd_j, nI_cl (show t + l.length < 2 ^ 31 by omega)]
    obtain ⟨m', a1, a2, a3, a4, a5, a6, a7⟩ := ih fu _ _ m1 E1 hc.2.2 (fun k hk2 => hk k (List.mem_cons_of_mem _ hk2)) (by omega) (by omega)
    refine ⟨m', ?_, a2, by rw [a3, ← hm1]; rfl, by rw [a4, ← hm1]; rfl, by rw [a5, ← hm1]; rfl, fun i hi => ?_, fun i q hq => ?_⟩
    · rw [f_X12_refuted_151, hc.2.1, if_neg (nI_nneg (by omega)), e19, inB_nI (show t + l.length < 2100 by omega) (by omega), if_pos rfl, if_pos rfl, inB_nI hp (by omega), if_pos rfl, nI_cl (show p.2.2.2.2.1 < 2 ^ 31 by omega), hm1, E1.2.1 31 (by decide) (by decide) (by decide) (by decide)]
      exact a1
    · have := a6 i (by omega)
      rw [this.1, this.2, r56, r57, if_neg (by omega), if_neg (by omega)]
      exact ⟨rfl, rfl⟩
    · cases i with
      | zero =>
        have : p = q := by simpa using hq
        have z := a6 (t + l.length) (by omega)
        rw [show t + (l.length + 1 - 1 - 0) = t + l.length by omega, z.1, z.2, r56, r57, if_pos rfl, if_pos rfl, this]
        exact ⟨rfl, rfl⟩
      | succ i =>
        have := a7 i q (by simpa using hq)
        rw [show t + (l.length + 1 - 1 - (i + 1)) = t + (l.length - 1 - i) by omega]
        exact this
theorem root26 {n : Nat} (hn : 100000 ≤ n) {sC sM m : StT} {t fu b r : Nat} {u x : Int32} {L : List WN} (hE : ER sM m) (m56 : m.2.1 56 t = nI r) (hr : r < 2100) (m57 : m.2.1 57 t = u) (m36 : m.1 36 = nI b) (hb : b < 60)
    (hu : u = -1 ∨ ∃ v, v < b ∧ u = nI v ∧ m.2.1 54 v ||| sM.2.1 32 r = sM.2.1 32 r) (hc : CHN sC sM x (sM.2.1 29 r) L) (hk : ∀ k, k ∈ L → k.2.2.2.2.1 < 2100) (ht : t + L.length ≤ 2100) (ht2 : t < 2100) :
    ∃ m', f_X12_refuted_26 n (fu + 1) m (nI (t + 1)) = f_X12_refuted_26 n fu m' (nI (t + L.length)) ∧ ER sM m' ∧ m'.1 36 = nI (b + 1) ∧ (∀ i, i < t → m'.2.1 56 i = m.2.1 56 i ∧ m'.2.1 57 i = m.2.1 57 i) ∧ (∀ i, i ≠ b → m'.2.1 53 i = m.2.1 53 i ∧ m'.2.1 54 i = m.2.1 54 i) ∧ m'.2.1 53 b = u ∧ m'.2.1 54 b = sM.2.1 32 r ∧ ∀ i k, L[i]? = some k → m'.2.1 56 (t + (L.length - 1 - i)) = nI k.2.2.2.2.1 ∧ m'.2.1 57 (t + (L.length - 1 - i)) = nI b := by
  have e19 : nI (t + 1) + (-1 : Int32) = nI t := by rw [← nI_1, Int32.add_assoc]; show nI t + 0 = nI t; exact Int32.add_zero _
  generalize hm1 : uA (uF m 36 (nI (b + 1))) 53 (nI b) u = m1
  have E1 : ER sM m1 := by rw [← hm1]; exact hE.f.a (by decide)
  have r53 : ∀ i, m1.2.1 53 i = if i = b then u else m.2.1 53 i := fun i => by
    rw [← hm1]; simp only [uA_21, uF_2, if_true, upd_j, nI_cl (show b < 2 ^ 31 by omega)]
  have r54 : m1.2.1 54 = m.2.1 54 := by rw [← hm1]; rfl
  have step : ∀ y0 : Int32, sM.2.1 32 r ||| y0 = sM.2.1 32 r → ∃ m', f_X12_refuted_102 n (f_X12_refuted_26 n fu) m1 (nI t) (nI r) (nI b) y0 (sM.2.1 32 r) (nI b) = f_X12_refuted_26 n fu m' (nI (t + L.length)) ∧ ER sM m' ∧ m'.1 36 = nI (b + 1) ∧ (∀ i, i < t → m'.2.1 56 i = m.2.1 56 i ∧ m'.2.1 57 i = m.2.1 57 i) ∧ (∀ i, i ≠ b → m'.2.1 53 i = m.2.1 53 i ∧ m'.2.1 54 i = m.2.1 54 i) ∧ m'.2.1 53 b = u ∧ m'.2.1 54 b = sM.2.1 32 r ∧ ∀ i k, L[i]? = some k → m'.2.1 56 (t + (L.length - 1 - i)) = nI k.2.2.2.2.1 ∧ m'.2.1 57 (t + (L.length - 1 - i)) = nI b := by
    intro y0 hy
    unfold f_X12_refuted_102
    rw [inB_nI (show b < 60 by omega) (by omega), if_pos rfl, inB_nI hr (by omega), if_pos rfl, hy]
    generalize hm2 : uA m1 54 (nI b) (sM.2.1 32 r) = m2
    have E2 : ER sM m2 := by rw [← hm2]; exact E1.a (by decide)
    have q54 : ∀ i, m2.2.1 54 i = if i = b then sM.2.1 32 r else m.2.1 54 i := fun i => by
      rw [← hm2]; simp only [uA_21, if_true, upd_j, nI_cl (show b < 2 ^ 31 by omega), r54]
    have q53 : m2.2.1 53 = m1.2.1 53 := by rw [← hm2]; rfl
    rw [E2.2.1 29 (by decide) (by decide) (by decide) (by decide), nI_cl (show r < 2 ^ 31 by omega)]
    rw [show (0 : Int32) = nI 0 from rfl, cnt115 E2 (inB_nI hr (by omega)) L 0 n x _ hc hk (by omega), Nat.zero_add, Int32.sub_eq_add_neg, nI_add, nI_cl (show r < 2 ^ 31 by omega)]
    obtain ⟨m', a1, a2, a3, a4, a5, a6, a7⟩ := lay151 (n := n) (k26 := f_X12_refuted_26 n fu) (x1 := nI t) (x3 := nI b) (x4 := nI L.length) (t := t) L n x _ m2 E2 hc hk ht (by omega)
    refine ⟨m', ?_, a2, ?_, fun i hi => ?_, fun i hi => ?_, ?_, ?_, a7⟩
    · rw [← nI_add] at a1 ⊢
      exact a1
    · rw [a3, ← hm2, ← hm1]; rfl
    · have := a6 i (Or.inl hi)
      rw [this.1, this.2, ← hm2, ← hm1]; exact ⟨rfl, rfl⟩
    · rw [a4, a5, q53, r53, q54, if_neg hi, if_neg hi]; exact ⟨rfl, rfl⟩
    · rw [a4, q53, r53, if_pos rfl]
    · rw [a5, q54, if_pos rfl]
  have hh : ∀ z : Int32, (nI (t + 1) ≤ 0) = False := fun z => eq_false (fun e => by have := (nI_leI (b := 0) (show t + 1 < 2 ^ 31 by omega) (by omega)).mp e; omega)
  rw [f_X12_refuted_26, if_neg (fun e => by have := (nI_leI (b := 0) (show t + 1 < 2 ^ 31 by omega) (by omega)).mp e; omega), e19, inB_nI ht2 (by omega), if_pos rfl, if_pos rfl, m36, inB_nI hb (by omega), if_pos rfl, nI_cl (show t < 2 ^ 31 by omega), m56, inB_nI hr (by omega), if_pos rfl, if_pos rfl, nI_1, show (uF m 36 (nI (b + 1))).2.1 57 t = u from m57, hm1, nI_cl (show b < 2 ^ 31 by omega), r53, if_pos rfl, nI_cl (show r < 2 ^ 31 by omega), E1.2.1 32 (by decide) (by decide) (by decide) (by decide)]
  rcases hu with rfl | ⟨v, hv, rfl, hor⟩
  · rw [if_neg (show ¬ (0 : Int32) ≤ -1 by decide)]
    exact step 0 (Int32.or_zero)
  · rw [if_pos (show (0 : Int32) ≤ nI v from (nI_leI (a := 0) (by omega) (by omega)).mpr (by omega)), if_pos rfl, inB_nI (show v < 60 by omega) (by omega), if_pos rfl, nI_cl (show v < 2 ^ 31 by omega), r54]
    exact step _ (by rw [Int32.or_comm]; exact hor)
def DF (n : Nat) (sC sM : StT) (N : Nat) (h : Nat) (p : WN) : Prop := ∀ (t fu b : Nat) (u : Int32) (m : StT), ER sM m → m.2.1 56 t = nI p.2.2.2.2.1 → m.2.1 57 t = u → m.1 36 = nI b → b + p.2.2.2.2.2 ≤ 60 → t + p.2.2.2.2.2 ≤ 2100 → (u = -1 ∨ ∃ v, v < b ∧ u = nI v ∧ m.2.1 54 v ||| sC.2.1 25 p.2.1 = sC.2.1 25 p.2.1) →
  ∃ m', f_X12_refuted_26 n (fu + p.2.2.2.2.2) m (nI (t + 1)) = f_X12_refuted_26 n fu m' (nI t) ∧ ER sM m' ∧ m'.1 36 = nI (b + p.2.2.2.2.2) ∧ (∀ i, i < t → m'.2.1 56 i = m.2.1 56 i ∧ m'.2.1 57 i = m.2.1 57 i) ∧ (∀ i, i < b → m'.2.1 53 i = m.2.1 53 i ∧ m'.2.1 54 i = m.2.1 54 i) ∧ WL sC sM N (m'.2.1 53) (m'.2.1 54) h p b u ∧ ∀ w, b < w → w < b + p.2.2.2.2.2 → ∃ x, x < w ∧ m'.2.1 53 w = nI x
theorem kids26 {n : Nat} {sC sM : StT} {N h t o : Nat} : ∀ (L : List WN) (fu b : Nat) (m : StT), (∀ k, k ∈ L → DF n sC sM N h k ∧ 1 ≤ k.2.2.2.2.2) → ER sM m → (∀ i k, L[i]? = some k → m.2.1 56 (t + (L.length - 1 - i)) = nI k.2.2.2.2.1 ∧ m.2.1 57 (t + (L.length - 1 - i)) = nI o) → m.1 36 = nI b → b + sumT L ≤ 60 → t + sumT L ≤ 2100 → o < b → (∀ k, k ∈ L → m.2.1 54 o ||| sC.2.1 25 k.2.1 = sC.2.1 25 k.2.1) →
  ∃ m', f_X12_refuted_26 n (fu + sumT L) m (nI (t + L.length)) = f_X12_refuted_26 n fu m' (nI t) ∧ ER sM m' ∧ m'.1 36 = nI (b + sumT L) ∧ (∀ i, i < t → m'.2.1 56 i = m.2.1 56 i ∧ m'.2.1 57 i = m.2.1 57 i) ∧ (∀ i, i < b → m'.2.1 53 i = m.2.1 53 i ∧ m'.2.1 54 i = m.2.1 54 i) ∧ (∀ A k B, L = A ++ k :: B → WL sC sM N (m'.2.1 53) (m'.2.1 54) h k (b + sumT A) (nI o)) ∧ ∀ w, b ≤ w → w < b + sumT L → ∃ x, x < w ∧ m'.2.1 53 w = nI x := by
  intro L
  induction L with
  | nil =>
    intro fu b m _ hE _ m36 _ _ _ _
    refine ⟨m, rfl, hE, by rw [m36, sumT_nil, Nat.add_zero], fun _ _ => ⟨rfl, rfl⟩, fun _ _ => ⟨rfl, rfl⟩, fun A k B h => ?_, fun w h1 h2 => ?_⟩
    · cases A <;> cases h
    · rw [sumT_nil] at h2; omega
  | cons k l ih =>
    intro fu b m hD hE hp m36 hb ht ho hor
    have hlen : (k :: l).length = l.length + 1 := rfl
    rw [sumT_cons] at hb ht ⊢
    rw [hlen] at hp ⊢
    have hk := hD k (List.mem_cons_self ..)
    have p0 := hp 0 k rfl
    rw [show t + (l.length + 1 - 1 - 0) = t + l.length by omega] at p0
    have hll : l.length ≤ sumT l := by
      clear ih hp hb ht hor p0 hlen hk
      induction l with
      | nil => simp
      | cons q l ih2 =>
        have := hD q (by simp)
        have := ih2 (fun k2 hk2 => hD k2 (by
          rcases List.mem_cons.mp hk2 with rfl | z
          · simp
          · simp [z]))
        rw [sumT_cons]
        simp only [List.length_cons]
        omega
    obtain ⟨m1, a1, a2, a3, a4, a5, a6, a7⟩ := hk.1 (t + l.length) (fu + sumT l) b (nI o) m hE p0.1 p0.2 m36 (by omega) (by omega) (Or.inr ⟨o, ho, rfl, hor k (List.mem_cons_self ..)⟩)
    obtain ⟨m2, b1, b2, b3, b4, b5, b6, b7⟩ := ih fu (b + k.2.2.2.2.2) m1 (fun q hq => hD q (List.mem_cons_of_mem _ hq)) a2 (fun i q hq => by
      have hi : i < l.length := by
        rcases Nat.lt_or_ge i l.length with z | z
        · exact z
        · rw [List.getElem?_eq_none z] at hq; cases hq
      have z := hp (i + 1) q (by simpa using hq)
      rw [show t + (l.length + 1 - 1 - (i + 1)) = t + (l.length - 1 - i) by omega] at z
      have y := a4 (t + (l.length - 1 - i)) (by omega)
      rw [y.1, y.2]; exact z) a3 (by omega) (by omega) (by omega) (fun q hq => by rw [(a5 o ho).2]; exact hor q (List.mem_cons_of_mem _ hq))
    refine ⟨m2, ?_, b2, by rw [b3, Nat.add_assoc], fun i hi => ?_, fun i hi => ?_, fun A q B hL => ?_, fun w h1 h2 => ?_⟩
    · rw [show fu + (k.2.2.2.2.2 + sumT l) = fu + sumT l + k.2.2.2.2.2 by omega, show t + (l.length + 1) = t + l.length + 1 by omega, a1, b1]
    · have x := a4 i (by omega); have y := b4 i hi
      rw [y.1, y.2, x.1, x.2]; exact ⟨rfl, rfl⟩
    · have x := a5 i (by omega); have y := b5 i (by omega)
      rw [y.1, y.2, x.1, x.2]; exact ⟨rfl, rfl⟩
    · cases A with
      | nil =>
        have e : k = q ∧ l = B := by simpa using hL
        rw [← e.1, sumT_nil, Nat.add_zero]
        exact a6.mv (fun i h1 h2 => b5 i h2)
      | cons a A =>
        have e : k = a ∧ l = A ++ q :: B := by simpa using hL
        have := b6 A q B e.2
        rw [sumT_cons, ← e.1, ← Nat.add_assoc]
        exact this
    · by_cases c : w < b + k.2.2.2.2.2
      · by_cases c2 : w = b
        · refine ⟨o, by omega, ?_⟩
          rw [(b5 w (by omega)).1]
          cases h with
          | zero => exact a6.elim
          | succ h => rw [c2]; exact a6.1
        · rw [(b5 w (by omega)).1]
          exact a7 w (by omega) c
      · exact b7 w (by omega) (by omega)
theorem dfs26 {n : Nat} (hn : 100000 ≤ n) {sC sM : StT} {N : Nat} : ∀ (h : Nat) (p : WN), WT sC sM h p → p.2.1 < N → DF n sC sM N h p ∧ 1 ≤ p.2.2.2.2.2 := by
  intro h
  induction h with
  | zero => intro p a; exact a.elim
  | succ h ih =>
    intro p a hN
    obtain ⟨w1, w2, w3, w4, w5, w6, w7, w8, L, e1, e2, e3⟩ := a
    refine ⟨?_, by omega⟩
    intro t fu b u m hE m56 m57 m36 hb ht hu
    have hlen : L.length ≤ sumT L := len_sum (sC := sC) (sM := sM) L (fun k hk => ⟨h, (e3 k hk).2.2.2.2.2.2⟩)
    obtain ⟨m1, a1, a2, a3, a4, a5, a6, a7, a8⟩ := root26 (n := n) hn (fu := fu + sumT L) hE m56 (by omega) m57 m36 (by omega) (by rw [← w6]; exact hu) e2 (fun k hk => by have := (e3 k hk).2.2.2.2.2.2.bd; omega) (by omega) (by omega)
    obtain ⟨m2, b1, b2, b3, b4, b5, b6, b7⟩ := kids26 (n := n) (sC := sC) (sM := sM) (N := N) (h := h) (t := t) (o := b) L fu (b + 1) m1 (fun k hk => ih k (e3 k hk).2.2.2.2.2.2 (by have := (e3 k hk).2.1; omega)) a2 a8 a3 (by omega) (by omega) (by omega) (fun k hk => by rw [a7, ← w6]; exact (e3 k hk).2.2.2.2.2.1)
    refine ⟨m2, ?_, b2, ?_, fun i hi => ?_, fun i hi => ?_, ?_, fun w h1 h2 => b7 w (by omega) (by omega)⟩
    · rw [e1, show fu + (1 + sumT L) = fu + sumT L + 1 by omega, a1, b1]
    · rw [b3, e1, Nat.add_assoc]
    · have x := a4 i hi; have y := b4 i hi
      rw [y.1, y.2, x.1, x.2]; exact ⟨rfl, rfl⟩
    · have x := a5 i (by omega); have y := b5 i (by omega)
      rw [y.1, y.2, x.1, x.2]; exact ⟨rfl, rfl⟩
    · refine ⟨?_, ?_, hN, w7, L, e1, e2, b6⟩
      · rw [(b5 b (by omega)).1]; exact a6
      · rw [(b5 b (by omega)).2, a7, w6]
/-- the whole laying of the reference -/
theorem refutedM {n : Nat} (hn : 100000 ≤ n) {sC sM m0 : StT} {N h : Nat} {p : WN} (hE : E56 sM m0) (hp : WT sC sM h p) (hN : p.2.1 < N) (h29 : sM.1 29 = nI p.2.2.2.2.1) (hT : p.2.2.2.2.2 ≤ 60) :
    ∃ m', f_X12_refuted n m0 = some (nI p.2.2.2.2.2, m') ∧ ER sM m' ∧ m'.1 36 = nI p.2.2.2.2.2 ∧ WL sC sM N (m'.2.1 53) (m'.2.1 54) h p 0 (-1) ∧ ∀ w, 0 < w → w < p.2.2.2.2.2 → ∃ x, x < w ∧ m'.2.1 53 w = nI x := by
  unfold f_X12_refuted
  rw [show inB (0 : Int32) 2100 = true from rfl, if_pos rfl, if_pos rfl, show (uF m0 36 (0 : Int32)).1 29 = nI p.2.2.2.2.1 by simp only [uF_1, if_neg (show ¬ (29 : Nat) = 36 by decide)]; rw [hE.1]; exact h29]
  generalize hm1 : uA (uA (uF m0 36 0) 56 0 (nI p.2.2.2.2.1)) 57 0 (-1) = m1
  have E0 : ER sM m0 := ⟨fun j _ => by rw [hE.1], fun j _ _ c _ => hE.2.1 j c, hE.2.2⟩
  have E1 : ER sM m1 := by rw [← hm1]; exact (E0.f.a (by decide)).a (by decide)
  obtain ⟨hD, h1⟩ := dfs26 (n := n) hn (N := N) h p hp hN
  obtain ⟨m', a1, a2, a3, a4, a5, a6, a7⟩ := hD 0 (n - p.2.2.2.2.2) 0 (-1) m1 E1 (by rw [← hm1]; rfl) (by rw [← hm1]; rfl) (by rw [← hm1]; rfl) (by omega) (by omega) (Or.inl rfl)
  refine ⟨m', ?_, a2, by rw [a3, Nat.zero_add], a6, fun w x y => a7 w x (by omega)⟩
  rw [show n - p.2.2.2.2.2 + p.2.2.2.2.2 = n by omega, show nI (0 + 1) = (1 : Int32) from rfl] at a1
  rw [a1]
  obtain ⟨q, hq⟩ := Nat.exists_eq_succ_of_ne_zero (show n - p.2.2.2.2.2 ≠ 0 by omega)
  rw [hq, f_X12_refuted_26, if_pos (show nI 0 ≤ (0 : Int32) by decide), a3, Nat.zero_add]
