/-! ===== proof: both write the same term ===== -/
theorem both_write {n N : Nat} (hn : 100000 ≤ n) {D : HD} {sC sM : StT} (hH : HS D sC sM) (h16 : sC.1 16 = nI N) (hN : N ≤ 30027) : ∀ (h c r n0 : Nat) (S : Nat → Nat), TT sC sM D.1.1 h c r n0 S → c < N → ∀ (NU : Nat → Nat) (dp : Nat), ∃ E : List Nat, (1 ≤ E.length ∧ ∀ b, b ∈ E → b < 128) ∧ CCt n sC c n0 S NU dp E ∧ MMt n sM r n0 NU dp E := by
  have env : ENV D sC N := ⟨hH.1, hH.2.2.1, hH.2.2.2.1, hH.2.2.2.2.2.1, hH.2.2.2.2.2.2.2, h16, hN⟩
  have hM := hH.2.1
  have hw := hH.2.2.1
  have hNm := hH.2.2.2.2.2.2.1
  have hNW := hH.2.2.2.2.2.2.2
  have ap : ∀ {A B : List Nat}, (∀ b, b ∈ A → b < 128) → (∀ b, b ∈ B → b < 128) → ∀ b, b ∈ A ++ B → b < 128 := fun hA hB b hb => by
    rcases List.mem_append.mp hb with e | e
    · exact hA b e
    · exact hB b e
  have o1 : ∀ {k : Nat}, k < 128 → ∀ b, b ∈ [k] → b < 128 := fun hk b hb => by rw [List.mem_singleton.mp hb]; exact hk
  intro h
  induction h with
  | zero => intro c r n0 S a; exact a.elim
  | succ h ih =>
    intro c r n0 S a hc NU dp
    obtain ⟨a1, a2, a3, a4⟩ := a
    rcases a4 with ⟨b1, m, r1, b2, b3, b4, b5, b50, b6⟩ | ⟨b1, b2, k, b3, b4, b5⟩ | ⟨b1, b2⟩ | ⟨b1, b2, f, c1, r1, b, b3, b4, b5, b6, b7, b8, b9, b10, b11⟩ | ⟨k, c1, r1, b1, b2, b3, b4, b5, b6, b7, b70, b8⟩ | ⟨k, c1, r1, c2, r2, b1, b2, b3, b4, b5, b6, b7, b8, b9, b10, b11, b12, b13⟩ | ⟨b1, b2, c1, r1, c2, r2, c3, r3, b, d1, d2, d3, d4, d5, d6, d7, d8, d9, d10, d11, d12, d13, d14, d15, d16⟩
    · obtain ⟨E, e1, e2, e3⟩ := ih c r1 m S b6 hc NU dp
      exact ⟨E, e1, CC_moved b2 b50 e2, MM_moved hn a2 a3 b1 b2 b3 b4 b5 e3⟩
    · exact ⟨_, ⟨by simp, ap (o1 (by omega)) (dgP_ok _ _).2⟩, CC_hyp hn env hc b2 b3 b5, MM_hyp hn a2 a3 b1 b3 b4⟩
    · exact ⟨[84], ⟨Nat.le_refl _, o1 (by omega)⟩, CC_unit env hc b2, MM_unit a2 b1⟩
    · obtain ⟨E, e1, e2, e3⟩ := ih c1 r1 (n0 + 1) (updN S n0 b) b11 (by omega) (updN NU n0 dp) (dp + 1)
      have hB : BND sC c b ∧ ∀ k, k < n0 → S k < 40000 → S k ≠ b := by
        rcases b10 with ⟨x1, x2, x3, x4⟩ | ⟨x1, x2⟩
        · exact ⟨Or.inl ⟨x1, x2, x3⟩, fun k hk _ => x4 k hk⟩
        · exact ⟨Or.inr ⟨x1, x2⟩, fun k _ hk => by omega⟩
      exact ⟨_, ⟨by simp, ap (ap (ap (ap (ap (o1 (by omega)) (o1 (by omega))) (fb_ok hw hNW f b3).2) (o1 (by omega))) e1.2) (o1 (by omega))⟩, CC_lam hn env hc b2 b3 b4 b6 b7 hB.1 hB.2 e2, MM_lam hn hM hw hNm hNW a2 b1 b9 b5 b3 e1.1 e3⟩
    · obtain ⟨E, e1, e2, e3⟩ := ih c1 r1 n0 S b8 (by omega) NU dp
      have hk := (show ∀ k, k ∈ [70, 83, 73, 74, 88] → k < 128 by decide) k b1
      exact ⟨_, ⟨by simp, ap (ap (ap (o1 hk) (o1 (by omega))) e1.2) (o1 (by omega))⟩, CC_one hn env hc b1 b3 b4 b5 e2, MM_one a2 b1 b2 b7 b70 e1.1 e3⟩
    · obtain ⟨E, e1, e2, e3⟩ := ih c1 r1 n0 S b12 (by omega) NU dp
      obtain ⟨E2, f1, f2, f3⟩ := ih c2 r2 n0 S b13 (by omega) NU dp
      have hk := (show ∀ k, k ∈ [65, 80] → k < 128 by decide) k b1
      exact ⟨_, ⟨by simp, ap (ap (ap (ap (ap (o1 hk) (o1 (by omega))) e1.2) (o1 (by omega))) f1.2) (o1 (by omega))⟩, CC_two hn env hc b1 b3 b4 b5 b8 b9 e2 f2, MM_two a2 b1 b2 b7 b11 b10 e1.1 f1.1 e3 f3⟩
    · obtain ⟨E, e1, e2, e3⟩ := ih c1 r1 n0 S d14 (by omega) NU dp
      obtain ⟨E2, f1, f2, f3⟩ := ih c2 r2 (n0 + 1) (updN S n0 b) d15 (by omega) (updN NU n0 dp) (dp + 1)
      obtain ⟨E3, g1, g2, g3⟩ := ih c3 r3 (n0 + 1) (updN S n0 b) d16 (by omega) (updN NU n0 dp) (dp + 1)
      obtain ⟨x1, x2, x3, x4⟩ := d13
      exact ⟨_, ⟨by simp, ap (ap (ap (ap (ap (ap (ap (o1 (by omega)) (o1 (by omega))) e1.2) (o1 (by omega))) f1.2) (o1 (by omega))) g1.2) (o1 (by omega))⟩, CC_cas hn env hc b2 d1 d2 d5 d6 d9 d10 (Or.inl ⟨x1, x2, x3⟩) (fun k hk _ => x4 k hk) e2 f2 g2, MM_cas a2 b1 d4 d8 d12 e1.1 f1.1 g1.1 e3 f3 g3⟩
/-- what is known of the latest search stays known -/
theorem SR.mv {D D' : HD} {sC sM sC' sM' : StT} (h : SR D sC sM) (hD : D.1.1 ≤ D'.1.1) (hF : ∀ j, 15 < j → j < 25 → j ≠ 19 → sC'.1 j = sC.1 j) (hA : ∀ j, (j = 16 ∨ (17 < j ∧ j < 21) ∨ (24 < j ∧ j < 29)) → sC'.2.1 j = sC.2.1 j) (h17 : ∀ i, (sC.2.1 16 i ≠ 104 ∨ (sC.1 22 = 1 ∧ ∃ gn, sC.1 23 = nI gn ∧ gn ≤ 20 ∧ i < gn)) → sC'.2.1 17 i = sC.2.1 17 i) (hG : ∀ j, (j = 20 ∨ j = 22 ∨ j = 23 ∨ (26 < j ∧ j < 31) ∨ j = 33) → sM'.1 j = sM.1 j) (hB : ∀ j, ((13 < j ∧ j < 19) ∨ (28 < j ∧ j < 33)) → sM'.2.1 j = sM.2.1 j) : SR D' sC' sM' := by
  obtain ⟨a1, a2, a3, a4, a5, a6, a7⟩ := h
  have F := fun j (x : 15 < j) (y : j < 25) (z : j ≠ 19) => hF j x y z
  refine ⟨by rw [F 20 (by decide) (by decide) (by decide), hG 20 (by decide)]; exact a1, by rw [F 17 (by decide) (by decide) (by decide), hG 22 (by decide)]; exact a2, by rw [F 21 (by decide) (by decide) (by decide), hG 23 (by decide)]; exact a3, by rw [F 22 (by decide) (by decide) (by decide), hG 28 (by decide)]; exact a4, by rw [F 23 (by decide) (by decide) (by decide), hG 33 (by decide)]; exact a5, fun x => ?_, fun x => ?_⟩
  · rw [F 22 (by decide) (by decide) (by decide)] at x
    obtain ⟨gn, c, r, b1, b2, ⟨b3, N, b30, b31, b32⟩, b4, b5, b6, ⟨hh, b7⟩, b8⟩ := a6 x
    refine ⟨gn, c, r, b1, by rw [F 23 (by decide) (by decide) (by decide)]; exact b2, ⟨b3, N, b30, b31, by rw [F 16 (by decide) (by decide) (by decide)]; exact b32⟩, b4, by rw [F 24 (by decide) (by decide) (by decide)]; exact b5, by rw [hG 27 (by decide)]; exact b6, ⟨hh, b7.mv hD (Nat.le_refl _) (fun _ _ => rfl) (fun j i y _ => by rw [hA j (by omega)]) (fun i _ y => h17 i (Or.inl y)) (fun j i y z _ => by rw [hB j (by omega)])⟩, fun k hk => ?_⟩
    rw [hA 16 (by decide), h17 k (Or.inr ⟨x, gn, b2, b1, hk⟩)]
    exact b8 k hk
  · rw [F 22 (by decide) (by decide) (by decide)] at x
    obtain ⟨p, bC, bM, nC, nM, mk, b1, b2, b3, b4, ⟨⟨hh, c1⟩, c2, c3, c4, c5, c6, c7, c8⟩, b6, b7⟩ := a7 x
    have w := c1.mv (sC' := sC') (sM' := sM') (Nat.le_refl _) (fun j i y _ _ => by rw [hA j (by omega)]) (fun i _ _ => by rw [hA 27 (by decide)]) (fun j i y _ _ => by rw [hB j (by omega)]) (fun i _ _ _ => by rw [hB 31 (by decide)])
    exact ⟨p, bC, bM, nC, nM, mk, b1, b2, by rw [F 18 (by decide) (by decide) (by decide)]; exact b3, by rw [hG 30 (by decide)]; exact b4, ⟨⟨hh, w⟩, c2, c3, c4, c5, by rw [hA 25 (by decide)]; exact c6, by rw [hA 27 (by decide)]; exact c7, by rw [hB 31 (by decide)]; exact c8⟩, by rw [F 24 (by decide) (by decide) (by decide)]; exact b6, by rw [hG 29 (by decide)]; exact b7⟩
