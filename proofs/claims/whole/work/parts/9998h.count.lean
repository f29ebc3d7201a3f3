/-! ===== refute: the reference counts the worlds ===== -/
def E56 (m m' : StT) : Prop := m'.1 = m.1 ∧ (∀ j, j ≠ 56 → m'.2.1 j = m.2.1 j) ∧ m'.2.2 = m.2.2
theorem E56.u {sM m : StT} {i x : Int32} (h : E56 sM m) : E56 sM (uA m 56 i x) := ⟨h.1, fun j hj => by simp only [uA_21]; rw [if_neg hj]; exact h.2.1 j hj, h.2.2⟩
theorem push49 {n : Nat} {sC sM : StT} {k27 : StT → Int32 → Int32 → Option (Int32 × StT)} {n1 : Int32} : ∀ (L : List WN) (t fu : Nat) (x y : Int32) (m : StT), E56 sM m → CHN sC sM x y L → (∀ k, k ∈ L → k.2.2.2.2.1 < 2100) → t + L.length ≤ 2100 → L.length < fu → ∃ m', f_X12_refute_49 n k27 fu m n1 (nI t) y = k27 m' n1 (nI (t + L.length)) ∧ E56 sM m' ∧ (∀ i, i < t → m'.2.1 56 i = m.2.1 56 i) ∧ ∀ i p, L[i]? = some p → m'.2.1 56 (t + i) = nI p.2.2.2.2.1 := by
  intro L
  induction L with
  | nil =>
    intro t fu x y m hE hc _ _ hfu
    obtain ⟨fu, rfl⟩ := Nat.exists_eq_succ_of_ne_zero (show fu ≠ 0 by omega)
    refine ⟨m, ?_, hE, fun _ _ => rfl, fun i p hp => by simp at hp⟩
    rw [f_X12_refute_49, hc.2, if_pos (show (-1 : Int32) < 0 by decide)]
    rfl
  | cons p l ih =>
    intro t fu x y m hE hc hk ht hfu
    obtain ⟨fu, rfl⟩ := Nat.exists_eq_succ_of_ne_zero (show fu ≠ 0 by omega)
    have hlen : (p :: l).length = l.length + 1 := rfl
    have hp := hk p (List.mem_cons_self ..)
    have e31 : (uA m 56 (nI t) (nI p.2.2.2.2.1)).2.1 31 p.2.2.2.2.1 = sM.2.1 31 p.2.2.2.2.1 := by
      simp only [uA_21, if_neg (show ¬ (31 : Nat) = 56 by decide)]; rw [hE.2.1 31 (by decide)]
    obtain ⟨m', a1, a2, a3, a4⟩ := ih (t + 1) fu (sC.2.1 27 p.2.1) (sM.2.1 31 p.2.2.2.2.1) (uA m 56 (nI t) (nI p.2.2.2.2.1)) hE.u hc.2.2 (fun k hk2 => hk k (List.mem_cons_of_mem _ hk2)) (by omega) (by omega)
    refine ⟨m', ?_, a2, fun i hi => ?_, fun i q hq => ?_⟩
    · rw [f_X12_refute_49, hc.2.1, if_neg (nI_nneg (by omega)), inB_nI (show t < 2100 by omega) (by omega), if_pos rfl, inB_nI hp (by omega), if_pos rfl, nI_cl (show p.2.2.2.2.1 < 2 ^ 31 by omega), e31, nI_1, a1, hlen, show t + (l.length + 1) = t + 1 + l.length by omega]
    · rw [a3 i (by omega)]
      simp only [uA_21, if_true, upd_j, nI_cl (show t < 2 ^ 31 by omega)]
      rw [if_neg (by omega)]
    · cases i with
      | zero =>
        have : p = q := by simpa using hq
        rw [← this, a3 (t + 0) (by omega)]
        simp only [uA_21, if_true, upd_j, nI_cl (show t < 2 ^ 31 by omega), Nat.add_zero]
      | succ i =>
        rw [show t + (i + 1) = t + 1 + i by omega]
        exact a4 i q (by simpa using hq)
theorem sumT_ap2 (A B : List WN) : sumT (A ++ B) = sumT A + sumT B := by unfold sumT; rw [List.map_append, List.sum_append]
theorem count27 {n : Nat} (hn : 100000 ≤ n) {sC sM : StT} : ∀ (k n1 t fu : Nat) (Q : List WN) (m : StT), E56 sM m → Q.length = t → (∀ i p, Q[i]? = some p → m.2.1 56 i = nI p.2.2.2.2.1) → (∀ p, p ∈ Q → ∃ h, WT sC sM h p) → sumT Q = k → n1 + k ≤ 2000 → k < fu → ∃ m', f_X12_refute_27 n fu m (nI n1) (nI t) = (if nI (n1 + k) ≤ (60 : Int32) then ((f_X12_refuted n m').bind fun q86 => (some (q86.1, q86.2))) else (some ((-4 : Int32), m'))) ∧ E56 sM m' := by
  intro k
  induction k with
  | zero =>
    intro n1 t fu Q m hE hQ hm hW hs hn1 hfu
    obtain ⟨fu, rfl⟩ := Nat.exists_eq_succ_of_ne_zero (show fu ≠ 0 by omega)
    have hl := len_sum (sC := sC) (sM := sM) Q hW
    have ht : t = 0 := by omega
    refine ⟨m, ?_, hE⟩
    rw [f_X12_refute_27, ht, if_pos (show nI 0 ≤ (0 : Int32) by decide)]
    rfl
  | succ k ih =>
    intro n1 t fu Q m hE hQ hm hW hs hn1 hfu
    obtain ⟨fu, rfl⟩ := Nat.exists_eq_succ_of_ne_zero (show fu ≠ 0 by omega)
    have hl := len_sum (sC := sC) (sM := sM) Q hW
    have hne : Q ≠ [] := fun e => by rw [e] at hs; simp [sumT] at hs
    obtain ⟨Q', p, rfl⟩ : ∃ Q' p, Q = Q' ++ [p] := ⟨Q.dropLast, Q.getLast hne, (List.dropLast_concat_getLast hne).symm⟩
    have hq : t = Q'.length + 1 := by rw [← hQ]; simp
    obtain ⟨h, hp⟩ := hW p (by simp)
    have pb := hp.bd
    cases h with
    | zero => exact hp.elim
    | succ h =>
      obtain ⟨_, _, _, _, _, _, _, _, L, e1, e2, e3⟩ := hp
      have hsL : sumT (Q' ++ L) = k := by
        rw [sumT_ap2] at hs ⊢
        have : sumT [p] = p.2.2.2.2.2 := by simp [sumT]
        omega
      have hWL : ∀ q, q ∈ Q' ++ L → ∃ h, WT sC sM h q := fun q hq => by
        rcases List.mem_append.mp hq with a | a
        · exact hW q (by simp [a])
        · obtain ⟨_, _, _, _, _, _, x⟩ := e3 q a; exact ⟨h, x⟩
      have hl2 := len_sum (sC := sC) (sM := sM) (Q' ++ L) hWL
      rw [List.length_append] at hl2
      have m56 : m.2.1 56 Q'.length = nI p.2.2.2.2.1 := hm Q'.length p (by simp)
      have m29 : m.2.1 29 p.2.2.2.2.1 = sM.2.1 29 p.2.2.2.2.1 := by rw [hE.2.1 29 (by decide)]
      obtain ⟨m', a1, a2, a3, a4⟩ := push49 (n := n) (sC := sC) (sM := sM) (k27 := f_X12_refute_27 n fu) (n1 := nI (n1 + 1)) L Q'.length n _ _ m hE e2 (fun q hq => by obtain ⟨_, _, _, _, _, _, x⟩ := e3 q hq; have := x.bd; omega) (by omega) (by omega)
      obtain ⟨m2, b1, b2⟩ := ih (n1 + 1) (Q'.length + L.length) fu (Q' ++ L) m' a2 (by rw [List.length_append]) (fun i q hq => by
        by_cases c : i < Q'.length
        · rw [a3 i c]
          refine hm i q ?_
          rw [List.getElem?_append_left c] at hq ⊢; exact hq
        · rw [List.getElem?_append_right (by omega)] at hq
          have := a4 _ q hq
          rw [show Q'.length + (i - Q'.length) = i by omega] at this
          exact this) hWL hsL (by omega) (by omega)
      refine ⟨m2, ?_, b2⟩
      have e19 : nI t + (-1 : Int32) = nI Q'.length := by rw [hq, ← nI_1, Int32.add_assoc]; show nI Q'.length + 0 = nI Q'.length; exact Int32.add_zero _
      rw [f_X12_refute_27, if_neg (show ¬ nI t ≤ (0 : Int32) from fun e => by have := (nI_leI (b := 0) (by omega) (by omega)).mp e; omega), e19, inB_nI (show Q'.length < 2100 by omega) (by omega), if_pos rfl, nI_cl (show Q'.length < 2 ^ 31 by omega), m56, inB_nI (show p.2.2.2.2.1 < 2100 by omega) (by omega), if_pos rfl, nI_cl (show p.2.2.2.2.1 < 2 ^ 31 by omega), m29, nI_1, a1, b1, show n1 + 1 + k = n1 + (k + 1) by omega]
