/-! ===== all parts of one term ===== -/
def tail87 (n : Nat) (x2 y0 a b c : Int32) (s : StT) : Option (Int32 × StT) := (f_X3_expect n s (41 : Int32)).bind fun q118 => (if x2 = (76 : Int32) then ((f_X7_add_T0 n (uF q118 9 ((q118.1 9) - (1 : Int32))) x2 a y0 c (-1 : Int32)).bind fun q153 => (some (q153.1, q153.2))) else ((f_X7_add_T0 n (uF q118 9 ((q118.1 9) - (1 : Int32))) x2 a b c (-1 : Int32)).bind fun q153 => (some (q153.1, q153.2))))
theorem ltr_bd {k : Nat} (hk : k ∈ LTR) : 65 ≤ k ∧ k < 100 := by
  simp only [LTR, List.mem_cons, List.not_mem_nil, or_false] at hk
  omega
theorem tail_e {n : Nat} {k : Nat} {y0 a b c : Int32} {s q s' : StT} {r : Int32} (hk : k ∈ LTR) (e1 : f_X3_expect n s 41 = some q) (e2 : f_X7_add_T0 n (uF q 9 (q.1 9 - 1)) (nI k) a (if k = 76 then y0 else b) c (-1) = some (r, s')) : tail87 n (nI k) y0 a b c s = some (r, s') := by
  have hb := ltr_bd hk
  unfold tail87
  rw [e1, Option.bind_some]
  by_cases h : k = 76
  · rw [if_pos (show nI k = (76 : Int32) by rw [h]; rfl), bind_eta]
    rw [if_pos h] at e2
    exact e2
  · rw [if_neg (show ¬ nI k = (76 : Int32) from fun e => h (nI_inj (b := 76) (by omega) (by omega) e)), bind_eta]
    rw [if_neg h] at e2
    exact e2
theorem tail_dead {n : Nat} {k : Nat} (hk : k ∈ LTR) (y0 a b c : Int32) {D : HD} {s m : StT} (h : RX D s m) : ∃ r s', tail87 n (nI k) y0 a b c s = some (r, s') ∧ RX D s' m ∧ FTC 0 s s' := by
  obtain ⟨r, s', ea, f1, f2, f3, f4⟩ := addT0_any n (uF s 9 (s.1 9 - 1)) (nI k) a (if k = 76 then y0 else b) c (-1)
  refine ⟨r, s', tail_e hk (expect_deadC h.c0 (by decide)) ea, ?_, ((FRC.op _ _).ft 0).tr f1⟩
  exact h.mv (f2 10 (by decide)) (f2 11 (by decide)) (f2 6 (by decide)) (f2 7 (by decide)) (fun j _ b => f3 j (by omega)) (by rw [f4]; rfl) rfl rfl rfl rfl (fun _ _ => rfl)
theorem part_dead {n : Nat} {rT : StT → Int32 → Option (Int32 × StT)} {rP : StT → Int32 → Int32 → Int32 → Option (Int32 × StT)} (hTd : ∀ s x, ¬ s.1 10 = 0 → rT s x = some (-1, s)) {s : StT} (h : ¬ s.1 10 = 0) {k m p : Nat} (hk : k ∈ LTR) (hp0 : 0 < p) (hp3 : p < 10) : ∃ z, g_X3_readPart n rT rP s (nI k) (nI p) (nI m) = some (z, s) := by
  by_cases c : p < pk k
  · refine ⟨-1, ?_⟩
    rw [partI hk hp0 c, expect_deadC h (by decide), Option.bind_some, hTd s _ h]
  · exact ⟨0, partN hk (by omega) hp3⟩
theorem partsT {n : Nat} (hn : 100000 ≤ n) {kk : Nat} {rT : StT → Int32 → Option (Int32 × StT)} {rP : StT → Int32 → Int32 → Int32 → Option (Int32 × StT)} (ih : LvT n kk rT) (hTd : ∀ s x, ¬ s.1 10 = 0 → rT s x = some (-1, s)) {X : TX} {D : HD} {p o m fo N u k f : Nat} {sC sM : StT} {y0 : Int32} (h : RS X D p (o + 1) sC sM) (hN : sC.1 8 = nI N) (hU : sM.1 34 = nI (u + 1)) (h2N : N ≤ u) (h2u : 2 * (u + 1) ≤ p) (hm : m ≤ 20 + o) (hkk : 41 - (o + 1) ≤ kk) (hfo : X.2.1 < fo + p) (hk : k ∈ LTR) (e45 : sM.2.1 45 o = nI u) (e46 : sM.2.1 46 o = nI 0) (e47 : sM.2.1 47 o = nI m) (e40 : sM.2.1 40 u = nI k) (e41 : sM.2.1 41 u = nI m) (hy : k = 76 → f < D.1.1 ∧ y0 = nI f ∧ sM.2.1 44 u = nI f) :
    ∃ r sC', ((g_X3_readPart n rT rP sC (nI k) 0 (nI m)).bind fun q92 => ((g_X3_readPart n rT rP q92.2 (nI k) 1 (nI m)).bind fun q101 => ((g_X3_readPart n rT rP q101.2 (nI k) 2 (nI m)).bind fun q110 => tail87 n (nI k) y0 q92.1 q101.1 q110.1 q110.2))) = some (r, sC') ∧ OkT n X D p o m fo N u sC sM (DnT n fo sM (o + 1) (m + lam k)) r sC' := by
  have ho40 := h.1.2.2.1.1
  have hX3 := h.1.2.1.1.1
  have hpX := h.2.1
  have hpb := pk_bd (k := k)
  have hlam : lam k ≤ 1 := by unfold lam; split <;> omega
  have hcsb : csb k ≤ 1 := by unfold csb; split <;> omega
  have hu : u < 1600 := by omega
  obtain ⟨hh, hhe⟩ : ∃ q, 41 - o = q + 1 := ⟨40 - o, by omega⟩
  have hhe' : 41 - (o + 1) = hh := by omega
  rw [part0 hk]
  obtain ⟨r1, c1, ec1, hO1⟩ := ih X D p (o + 1) (m + lam k) fo N (u + 1) sC sM h hN hU (by omega) h2u (by omega) hkk hfo
  rw [ec1, Option.bind_some]
  simp only []
  rcases hO1 with ⟨i1, D1, p1, m1, fo1, x1, hr1, hi1, h8, h34, hT1, hR1, hG1, hp1, h2i, h2e, fC1, fM1, hfo1, hrun1⟩ | ⟨D1, m1, hX1, hG1, fC1, fM1, hrun1⟩
  · have hp1X := hR1.2.1
    have hlt1 := hT1.lt
    have q45 : m1.2.1 45 o = nI u := by rw [fM1.2.2.1 45 o (by decide) (by decide) (by omega)]; exact e45
    have q46 : m1.2.1 46 o = nI 0 := by rw [fM1.2.2.1 46 o (by decide) (by decide) (by omega)]; exact e46
    have q47 : m1.2.1 47 o = nI m := by rw [fM1.2.2.1 47 o (by decide) (by decide) (by omega)]; exact e47
    have q40 : m1.2.1 40 u = nI k := by rw [fM1.2.2.2.1 40 u (by decide) (by decide) (by omega)]; exact e40
    have q41 : m1.2.1 41 u = nI m := by rw [fM1.2.2.2.1 41 u (by decide) (by decide) (by omega)]; exact e41
    have q44 : m1.2.1 44 u = sM.2.1 44 u := fM1.2.2.2.1 44 u (by decide) (by decide) (by omega)
    by_cases k1 : pk k = 1
    · rw [show (1 : Int32) = nI 1 from rfl, partN hk (by omega) (by omega), Option.bind_some]
      simp only []
      rw [show (2 : Int32) = nI 2 from rfl, partN hk (by omega) (by omega), Option.bind_some]
      simp only []
      obtain ⟨q, r, sC', eq1, eq2, hE⟩ := endT hn hR1 h8 (by omega) hk (st := 0) (t := u + 1) (by omega) hu q45 q46 q40 r1 (if k = 76 then y0 else 0) 0
      refine ⟨r, sC', tail_e hk eq1 eq2, ?_⟩
      rcases hE with ⟨p2, m2, hr, g8, g34, g2, gr, hR2, hp2, fC2, fM2, hup⟩ | ⟨m2, hX2, fC2, fM2, hup⟩
      · have hp2X := hR2.2.1
        refine Or.inl ⟨i1 + 1, D1, p2, m2, fo1, x1, hr, by omega, g8, by rw [g34]; exact h34, ?_, hR2, hG1, by omega, by omega, by omega, fC1.tr (fC2.lo (by omega)), ((fM1.lo (by omega) (by omega)).tr (sT_fr (by omega) (Nat.le_refl _) (Nat.le_refl _) (by omega) hu)).tr ((fM2 0).ft o u), by omega, fun res hU => hrun1 res (hup fo1 res hU)⟩
        rw [hhe]
        refine ⟨by omega, by omega, by omega, by omega, ?_, Or.inr (Or.inr ⟨k, i1, x1, hk, gr.1, ?_, by omega, ?_, ?_, ?_, Or.inl ⟨k1, rfl, fun hk76 => ?_⟩⟩)⟩
        · rw [g2, sT_o hu (by omega) (Or.inl (by decide)) (Or.inl (by decide))]; exact q41
        · rw [g2, sT_o hu (by omega) (Or.inl (by decide)) (Or.inl (by decide))]; exact q40
        · rw [gr.2.1]; exact hr1
        · rw [g2]; exact sT_at (st := 0) hu (by decide)
        · rw [← hhe']
          exact hT1.mv (Nat.le_refl _) (fun j r a b c => fC2.2.2.1 j r a (by omega) (by omega)) (fun j r a b c d => by rw [g2, sT_o hu (by omega) (Or.inr (by omega)) (Or.inl (by omega))])
        · obtain ⟨z1, z2, z3⟩ := hy hk76
          refine ⟨f, Nat.lt_of_lt_of_le z1 hG1.1, ?_, ?_⟩
          · rw [gr.2.2.1, if_pos hk76]; exact z2
          · rw [g2, sT_o hu (by omega) (Or.inl (by decide)) (Or.inl (by decide)), q44]; exact z3
      · exact Or.inr ⟨D1, m2, hX2, hG1, (fC1.lo (Nat.zero_le _)).tr fC2, (fM1.lo (Nat.zero_le _) (Nat.zero_le _)).tr fM2, hrun1 _ (hup fo1)⟩
    · rw [show (1 : Int32) = nI 1 from rfl, partI hk (by omega) (show 1 < pk k by omega)]
      obtain ⟨q, eq, hE⟩ := nextT hn hR1 (t := u + 1) hk (st := 0) (show 0 + 1 < pk k by omega) hu q45 q46 q47 q40
      rw [eq, Option.bind_some]
      rcases hE with ⟨p2, m2, hR2, hp2, w8, w34, g2, fq, fM2, hnx⟩ | ⟨m2, hX2, fq, fM2, hnx⟩
      · have hp2X := hR2.2.1
        have ft12 : FTM o u m1 m2 := (sT_fr (by omega) (Nat.le_refl _) (Nat.le_refl _) (by omega) hu).tr ((fM2 0).ft o u)
        obtain ⟨r2, c3, ec3, hO3⟩ := ih X D1 p2 (o + 1) (m + csb k) fo1 (i1 + 1) x1 q m2 hR2 (by rw [w8]; exact h8) (by rw [w34]; exact h34) (by omega) (by omega) (by omega) hkk (by omega)
        rw [ec3, Option.bind_some]
        simp only []
        rcases hO3 with ⟨i2, D3, p3, m3, fo3, x2, hr2, hi2, g8, h34', hT3, hR3, hG3, hp3, h2i', h2e', fC3, fM3, hfo3, hrun3⟩ | ⟨D3, m3, hX3', hG3, fC3, fM3, hrun3⟩
        · have hp3X := hR3.2.1
          have hlt3 := hT3.lt
          have v45 : m3.2.1 45 o = nI u := by rw [fM3.2.2.1 45 o (by decide) (by decide) (by omega), g2, sT_o hu (by omega) (Or.inl (by decide)) (Or.inl (by decide))]; exact q45
          have v46 : m3.2.1 46 o = nI 1 := by rw [fM3.2.2.1 46 o (by decide) (by decide) (by omega), g2]; exact sT_46 (by omega)
          have v47 : m3.2.1 47 o = nI m := by rw [fM3.2.2.1 47 o (by decide) (by decide) (by omega), g2, sT_o hu (by omega) (Or.inl (by decide)) (Or.inl (by decide))]; exact q47
          have v40 : m3.2.1 40 u = nI k := by rw [fM3.2.2.2.1 40 u (by decide) (by decide) (by omega), g2, sT_o hu (by omega) (Or.inl (by decide)) (Or.inl (by decide))]; exact q40
          have v41 : m3.2.1 41 u = nI m := by rw [fM3.2.2.2.1 41 u (by decide) (by decide) (by omega), g2, sT_o hu (by omega) (Or.inl (by decide)) (Or.inl (by decide))]; exact q41
          have v42 : m3.2.1 42 u = nI (u + 1) := by rw [fM3.2.2.2.1 42 u (by decide) (by decide) (by omega), g2]; exact sT_at (st := 0) hu (by decide)
          have hT1' : TR c3 m3 D3.1.1 hh i1 (u + 1) (m + lam k) x1 := by
            rw [← hhe']
            exact hT1.mv hG3.1 (fun j r a b c => by rw [fC3.2.2.1 j r a (by omega) (by omega), fq.2.1 j (by omega)]) (fun j r a b c d => by rw [fM3.2.2.2.1 j r a b d, g2, sT_o hu (by omega) (Or.inr (by omega)) (Or.inl (by omega))])
          have fCa : FTC N sC c3 := (fC1.tr (fq.ft N)).tr (fC3.lo (by omega))
          have fMa : FTM o u sM m3 := ((fM1.lo (by omega) (by omega)).tr ft12).tr (fM3.lo (by omega) (by omega))
          by_cases k2 : pk k = 2
          · rw [show (2 : Int32) = nI 2 from rfl, partN hk (by omega) (by omega), Option.bind_some]
            simp only []
            obtain ⟨q', r, sC', eq1, eq2, hE⟩ := endT hn hR3 g8 (by omega) hk (st := 1) (t := x1) (by omega) hu v45 v46 v40 r1 (if k = 76 then y0 else r2) 0
            refine ⟨r, sC', tail_e hk eq1 eq2, ?_⟩
            rcases hE with ⟨p4, m4, hr, g8', g34, g2', gr, hR4, hp4, fC4, fM4, hup⟩ | ⟨m4, hX4, fC4, fM4, hup⟩
            · have hp4X := hR4.2.1
              refine Or.inl ⟨i2 + 1, D3, p4, m4, fo3, x2, hr, by omega, g8', by rw [g34]; exact h34', ?_, hR4, hG1.tr hG3, by omega, by omega, by omega, fCa.tr (fC4.lo (by omega)), (fMa.tr (sT_fr (by omega) (Nat.le_refl _) (Nat.le_refl _) (by omega) hu)).tr ((fM4 0).ft o u), by omega, fun res hU => hrun1 res (hnx fo1 res (hrun3 res (hup fo3 res hU)))⟩
              have hn76 : ¬ k = 76 := fun e => by rw [e] at k2; exact absurd k2 (by decide)
              rw [hhe]
              refine ⟨by omega, by omega, by omega, by omega, ?_, Or.inr (Or.inr ⟨k, i1, x1, hk, gr.1, ?_, by omega, ?_, ?_, ?_, Or.inr ⟨by omega, i2, x2, by omega, ?_, ?_, ?_, Or.inl ⟨k2, rfl⟩⟩⟩)⟩
              · rw [g2', sT_o hu (by omega) (Or.inl (by decide)) (Or.inl (by decide))]; exact v41
              · rw [g2', sT_o hu (by omega) (Or.inl (by decide)) (Or.inl (by decide))]; exact v40
              · rw [gr.2.1]; exact hr1
              · rw [g2', sT_o hu (by omega) (Or.inl (by decide)) (Or.inl (by decide))]; exact v42
              · exact hT1'.mv (Nat.le_refl _) (fun j r a b c => fC4.2.2.1 j r a (by omega) (by omega)) (fun j r a b c d => by rw [g2', sT_o hu (by omega) (Or.inr (by omega)) (Or.inl (by omega))])
              · rw [gr.2.2.1, if_neg hn76]; exact hr2
              · rw [g2']; exact sT_at (st := 1) hu (by decide)
              · rw [← hhe']
                exact hT3.mv (Nat.le_refl _) (fun j r a b c => fC4.2.2.1 j r a (by omega) (by omega)) (fun j r a b c d => by rw [g2', sT_o hu (by omega) (Or.inr (by omega)) (Or.inl (by omega))])
            · exact Or.inr ⟨D3, m4, hX4, hG1.tr hG3, (fCa.lo (Nat.zero_le _)).tr fC4, (fMa.lo (Nat.zero_le _) (Nat.zero_le _)).tr fM4, hrun1 _ (hnx fo1 _ (hrun3 _ (hup fo3)))⟩
          · have k3 : pk k = 3 := by omega
            rw [show (2 : Int32) = nI 2 from rfl, partI hk (by omega) (show 2 < pk k by omega)]
            obtain ⟨qq, eqq, hE4⟩ := nextT hn hR3 (t := x1) hk (st := 1) (show 1 + 1 < pk k by omega) hu v45 v46 v47 v40
            rw [eqq, Option.bind_some]
            rcases hE4 with ⟨p4, m4, hR4, hp4, w8', w34', g4, fq4, fM4, hnx4⟩ | ⟨m4, hX4, fq4, fM4, hnx4⟩
            · have hp4X := hR4.2.1
              have ft34 : FTM o u m3 m4 := (sT_fr (by omega) (Nat.le_refl _) (Nat.le_refl _) (by omega) hu).tr ((fM4 0).ft o u)
              obtain ⟨r5, c5, ec5, hO5⟩ := ih X D3 p4 (o + 1) (m + csb k) fo3 (i2 + 1) x2 qq m4 hR4 (by rw [w8']; exact g8) (by rw [w34']; exact h34') (by omega) (by omega) (by omega) hkk (by omega)
              rw [ec5, Option.bind_some]
              simp only []
              rcases hO5 with ⟨i3, D5, p5, m5, fo5, x3, hr5, hi3, g8', h34'', hT5, hR5, hG5, hp5, h2i'', h2e'', fC5, fM5, hfo5, hrun5⟩ | ⟨D5, m5, hX5, hG5, fC5, fM5, hrun5⟩
              · have hp5X := hR5.2.1
                have hlt5 := hT5.lt
                have z45 : m5.2.1 45 o = nI u := by rw [fM5.2.2.1 45 o (by decide) (by decide) (by omega), g4, sT_o hu (by omega) (Or.inl (by decide)) (Or.inl (by decide))]; exact v45
                have z46 : m5.2.1 46 o = nI 2 := by rw [fM5.2.2.1 46 o (by decide) (by decide) (by omega), g4]; exact sT_46 (by omega)
                have z40 : m5.2.1 40 u = nI k := by rw [fM5.2.2.2.1 40 u (by decide) (by decide) (by omega), g4, sT_o hu (by omega) (Or.inl (by decide)) (Or.inl (by decide))]; exact v40
                have z41 : m5.2.1 41 u = nI m := by rw [fM5.2.2.2.1 41 u (by decide) (by decide) (by omega), g4, sT_o hu (by omega) (Or.inl (by decide)) (Or.inl (by decide))]; exact v41
                have z42 : m5.2.1 42 u = nI (u + 1) := by rw [fM5.2.2.2.1 42 u (by decide) (by decide) (by omega), g4, sT_o hu (by omega) (Or.inl (by decide)) (Or.inl (by decide))]; exact v42
                have z43 : m5.2.1 43 u = nI x1 := by rw [fM5.2.2.2.1 43 u (by decide) (by decide) (by omega), g4]; exact sT_at (st := 1) hu (by decide)
                have hT1'' : TR c5 m5 D5.1.1 hh i1 (u + 1) (m + lam k) x1 :=
                  hT1'.mv hG5.1 (fun j r a b c => by rw [fC5.2.2.1 j r a (by omega) (by omega), fq4.2.1 j (by omega)]) (fun j r a b c d => by rw [fM5.2.2.2.1 j r a b (by omega), g4, sT_o hu (by omega) (Or.inr (by omega)) (Or.inl (by omega))])
                have hT3' : TR c5 m5 D5.1.1 hh i2 x1 (m + csb k) x2 := by
                  rw [← hhe']
                  exact hT3.mv hG5.1 (fun j r a b c => by rw [fC5.2.2.1 j r a (by omega) (by omega), fq4.2.1 j (by omega)]) (fun j r a b c d => by rw [fM5.2.2.2.1 j r a b d, g4, sT_o hu (by omega) (Or.inr (by omega)) (Or.inl (by omega))])
                have fCb : FTC N sC c5 := (fCa.tr (fq4.ft N)).tr (fC5.lo (by omega))
                have fMb : FTM o u sM m5 := (fMa.tr ft34).tr (fM5.lo (by omega) (by omega))
                obtain ⟨q', r, sC', eq1, eq2, hE⟩ := endT hn hR5 g8' (by omega) hk (st := 2) (t := x2) (by omega) hu z45 z46 z40 r1 (if k = 76 then y0 else r2) r5
                refine ⟨r, sC', tail_e hk eq1 eq2, ?_⟩
                rcases hE with ⟨p6, m6, hr, g8'', g34, g2', gr, hR6, hp6, fC6, fM6, hup⟩ | ⟨m6, hX6, fC6, fM6, hup⟩
                · have hp6X := hR6.2.1
                  refine Or.inl ⟨i3 + 1, D5, p6, m6, fo5, x3, hr, by omega, g8'', by rw [g34]; exact h34'', ?_, hR6, (hG1.tr hG3).tr hG5, by omega, by omega, by omega, fCb.tr (fC6.lo (by omega)), (fMb.tr (sT_fr (by omega) (Nat.le_refl _) (Nat.le_refl _) (by omega) hu)).tr ((fM6 0).ft o u), by omega, fun res hU => hrun1 res (hnx fo1 res (hrun3 res (hnx4 fo3 res (hrun5 res (hup fo5 res hU)))))⟩
                  have hn76 : ¬ k = 76 := fun e => by rw [e] at k3; exact absurd k3 (by decide)
                  rw [hhe]
                  refine ⟨by omega, by omega, by omega, by omega, ?_, Or.inr (Or.inr ⟨k, i1, x1, hk, gr.1, ?_, by omega, ?_, ?_, ?_, Or.inr ⟨by omega, i2, x2, by omega, ?_, ?_, ?_, Or.inr ⟨k3, i3, by omega, ?_, ?_, ?_⟩⟩⟩)⟩
                  · rw [g2', sT_o hu (by omega) (Or.inl (by decide)) (Or.inl (by decide))]; exact z41
                  · rw [g2', sT_o hu (by omega) (Or.inl (by decide)) (Or.inl (by decide))]; exact z40
                  · rw [gr.2.1]; exact hr1
                  · rw [g2', sT_o hu (by omega) (Or.inl (by decide)) (Or.inl (by decide))]; exact z42
                  · exact hT1''.mv (Nat.le_refl _) (fun j r a b c => fC6.2.2.1 j r a (by omega) (by omega)) (fun j r a b c d => by rw [g2', sT_o hu (by omega) (Or.inr (by omega)) (Or.inl (by omega))])
                  · rw [gr.2.2.1, if_neg hn76]; exact hr2
                  · rw [g2', sT_o hu (by omega) (Or.inl (by decide)) (Or.inl (by decide))]; exact z43
                  · exact hT3'.mv (Nat.le_refl _) (fun j r a b c => fC6.2.2.1 j r a (by omega) (by omega)) (fun j r a b c d => by rw [g2', sT_o hu (by omega) (Or.inr (by omega)) (Or.inl (by omega))])
                  · rw [gr.2.2.2]; exact hr5
                  · rw [g2']; exact sT_at (st := 2) hu (by decide)
                  · rw [← hhe']
                    exact hT5.mv (Nat.le_refl _) (fun j r a b c => fC6.2.2.1 j r a (by omega) (by omega)) (fun j r a b c d => by rw [g2', sT_o hu (by omega) (Or.inr (by omega)) (Or.inl (by omega))])
                · exact Or.inr ⟨D5, m6, hX6, (hG1.tr hG3).tr hG5, (fCb.lo (Nat.zero_le _)).tr fC6, (fMb.lo (Nat.zero_le _) (Nat.zero_le _)).tr fM6, hrun1 _ (hnx fo1 _ (hrun3 _ (hnx4 fo3 _ (hrun5 _ (hup fo5)))))⟩
              · obtain ⟨r, s', et, hX, ft⟩ := tail_dead (n := n) hk y0 r1 r2 r5 hX5
                exact ⟨r, s', et, Or.inr ⟨D5, m5, hX, (hG1.tr hG3).tr hG5, (((fCa.lo (Nat.zero_le _)).tr (fq4.ft 0)).tr fC5).tr ft, ((fMa.lo (Nat.zero_le _) (Nat.zero_le _)).tr (ft34.lo (Nat.zero_le _) (Nat.zero_le _))).tr fM5, hrun1 _ (hnx fo1 _ (hrun3 _ (hnx4 fo3 _ hrun5)))⟩⟩
            · rw [hTd _ _ hX4.c0, Option.bind_some]
              simp only []
              obtain ⟨fo3', rfl⟩ : ∃ z, fo3 = z + 1 := ⟨fo3 - 1, by omega⟩
              obtain ⟨r, s', et, hX, ft⟩ := tail_dead (n := n) hk y0 r1 r2 (-1) hX4
              exact ⟨r, s', et, Or.inr ⟨D3, m4, hX, hG1.tr hG3, ((fCa.lo (Nat.zero_le _)).tr (fq4.ft 0)).tr ft, (fMa.lo (Nat.zero_le _) (Nat.zero_le _)).tr fM4, hrun1 _ (hnx fo1 _ (hrun3 _ (hnx4 fo3')))⟩⟩
        · obtain ⟨z, ez⟩ := part_dead (n := n) (rP := rP) (m := m) hTd hX3'.c0 hk (show 0 < 2 by decide) (by decide)
          rw [show (2 : Int32) = nI 2 from rfl, ez, Option.bind_some]
          simp only []
          obtain ⟨r, s', et, hX, ft⟩ := tail_dead (n := n) hk y0 r1 r2 z hX3'
          exact ⟨r, s', et, Or.inr ⟨D3, m3, hX, hG1.tr hG3, (((fC1.lo (Nat.zero_le _)).tr (fq.ft 0)).tr fC3).tr ft, ((fM1.lo (Nat.zero_le _) (Nat.zero_le _)).tr (ft12.lo (Nat.zero_le _) (Nat.zero_le _))).tr fM3, hrun1 _ (hnx fo1 _ hrun3)⟩⟩
      · rw [hTd _ _ hX2.c0, Option.bind_some]
        simp only []
        obtain ⟨z, ez⟩ := part_dead (n := n) (rP := rP) (m := m) hTd hX2.c0 hk (show 0 < 2 by decide) (by decide)
        rw [show (2 : Int32) = nI 2 from rfl, ez, Option.bind_some]
        simp only []
        obtain ⟨fo1', rfl⟩ : ∃ z, fo1 = z + 1 := ⟨fo1 - 1, by omega⟩
        obtain ⟨r, s', et, hX, ft⟩ := tail_dead (n := n) hk y0 r1 (-1) z hX2
        exact ⟨r, s', et, Or.inr ⟨D1, m2, hX, hG1, ((fC1.lo (Nat.zero_le _)).tr (fq.ft 0)).tr ft, (fM1.lo (Nat.zero_le _) (Nat.zero_le _)).tr fM2, hrun1 _ (hnx fo1')⟩⟩
  · obtain ⟨z1, ez1⟩ := part_dead (n := n) (rP := rP) (m := m) hTd hX1.c0 hk (show 0 < 1 by decide) (by decide)
    obtain ⟨z2, ez2⟩ := part_dead (n := n) (rP := rP) (m := m) hTd hX1.c0 hk (show 0 < 2 by decide) (by decide)
    rw [show (1 : Int32) = nI 1 from rfl, ez1, Option.bind_some]
    simp only []
    rw [show (2 : Int32) = nI 2 from rfl, ez2, Option.bind_some]
    simp only []
    obtain ⟨r, s', et, hX, ft⟩ := tail_dead (n := n) hk y0 r1 z1 z2 hX1
    exact ⟨r, s', et, Or.inr ⟨D1, m1, hX, hG1, fC1.tr ft, fM1, hrun1⟩⟩
