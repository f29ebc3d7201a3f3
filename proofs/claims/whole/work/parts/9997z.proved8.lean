/-! ===== a premise was proved: stage 8; all stages ===== -/
theorem res_8 {n : Nat} (hn : 100000 ≤ n) {D : HD} {Lv : Nat → LD} {e NC NR nC nM mo c r : Nat} {sC sM : StT} {R' : RW} (h : RP D Lv e NC NR nC nM mo c r sC sM R') (hst : stL (Lv e) = 8) : OUT n D Lv e NC NR nC nM sC sM (f_X5_goOn n sC (nI e) 1) (f_X12_resumed n sM (nI e) 1) := by
  obtain ⟨h, hl, hc, hr, h24, h25, ht⟩ := h
  have hd := h.2.2.2.2.2.2.1
  have hNC := h.2.2.2.2.2.2.2.1
  have hNR := h.2.2.2.2.2.2.2.2.1
  have hS := h.1
  have hRR := h.2.2.1
  have hal := hRR.2.2.2.1
  have hw := hS.1.2.2.1
  have hF := hw.2.1
  have hz := hRR.1.2.1
  have hgl := hRR.2.2.1
  obtain ⟨⟨l1, l2, l3⟩, l4, l5, l6, _, _, _, l10, _, l12, _⟩ := hl
  obtain ⟨x1, x2, x3⟩ := l10 (by rw [hst]; decide)
  obtain ⟨k5, k55⟩ := l12 hst
  rw [hst] at l1 l2 l6
  obtain ⟨ea, eb, b34, bN, b16, bne⟩ : aR R' = aR (Lv e).1 + 1 ∧ sR R' (aR (Lv e).1) = bdL (Lv e) ∧ sC.2.1 34 e = nI (bdL (Lv e)) ∧ bdL (Lv e) < NC ∧ sC.2.1 16 (bdL (Lv e)) = 104 ∧ FRE (Lv e).1 (bdL (Lv e)) := by
    rcases l6 with ⟨x, _⟩ | ⟨_, x⟩
    · exact absurd x (by decide)
    · exact x
  obtain ⟨hf, _, htc, _, _⟩ := hRR.2.2.2.2.1 _ x3
  have hlo := hw.lo hf (by omega)
  have hp : D.1.2.2.1 (fmR (Lv e).1 (piL (Lv e))) < D.1.1 := by omega
  have hlp := hw.lo hp (by omega)
  have hmf := hS.1.2.1.2 _ hf
  have hmp := hS.1.2.1.2 _ hp
  have hrow := hRR.2.1.2.2.2.2 _ x3
  -- the terms
  obtain ⟨s2, v2, c2, w2, k2⟩ := aT1_ex sC (N := NC) (by omega) 76 (nI c) (nI (D.1.2.2.1 (D.1.2.2.1 (fmR (Lv e).1 (piL (Lv e)))))) 0 (nI (bdL (Lv e)))
  obtain ⟨m2, v4, g4, r4, i4⟩ := tM_ex sM (R := NR) (by omega) 76 (nI (D.1.2.2.1 (D.1.2.2.1 (fmR (Lv e).1 (piL (Lv e)))))) (nI r) (-1) (-1)
  have hR1 := hRR.gr (Nat.lt_succ_self e) (c2.kg (e + 1)) (g4.kg (e + 1)) (Nat.le_refl _) (Nat.le_succ NC) (Nat.le_succ NR)
  obtain ⟨r1, m3, NR', t1, t2, t3, t4, t5, t6, t7⟩ := termOfM (n := n) hR1 (by omega) x3 i4 (by omega)
  obtain ⟨s3, v3, c3, w3, k3⟩ := aT1_ex s2 (N := NC + 1) (by omega) 65 (nI (tcR (Lv e).1 (piL (Lv e)))) (nI NC) 0 (-1)
  obtain ⟨m4, v5, g5, r5, i5⟩ := tM_ex m3 (R := NR') (by omega) 65 0 (nI r1) (nI NR) (-1)
  have p0 := (((((PRG.start (d := e) hS).c1 c2 k2 (by omega)).m1 g4 i4 (by omega)).m1 t6 t5 t2).c1 c3 k3 (by omega)).m1 g5 i5 (by omega)
  have hRa := hRR.gr (Nat.lt_succ_self e) p0.2.2.1.1 p0.2.2.1.2 (Nat.le_refl _) (show NC ≤ NC + 1 + 1 by omega) (show NR ≤ NR' + 1 by omega)
  obtain ⟨s4, u1, u2, u3, u4⟩ := followC (n := n) hn (g' := gR (Lv e).1) hRa.1 (by omega) (at_w hz x3)
  obtain ⟨m5, d1, d2, d3, d4⟩ := withinM (n := n) hn (g' := gR (Lv e).1) (ar' := aR (Lv e).1) hRa.2.1 (by omega) (at_w hz x3)
  have p1 := (p0.lw u2 d2).mc 25 (by decide) (by omega) 1
  have hRb := hRR.gr (Nat.lt_succ_self e) p1.2.2.1.1 p1.2.2.1.2 (Nat.le_refl _) (show NC ≤ NC + 1 + 1 by omega) (show NR ≤ NR' + 1 by omega)
  have hRc := hRb.next (S' := sR (Lv e).1) u4 (d4.keep (fun j x y => by simp only [uA_21]; rw [if_neg (by omega)])) hgl (Or.inl rfl) (fun _ _ => rfl)
  have C := c2.tr c3 (Nat.le_succ NC)
  have G := g4.tr (t6.tr g5 t2) (Nat.le_succ NR)
  have a1 : TTx s3 m4 D.1.1 NC NR (aR (Lv e).1) (sR (Lv e).1) := by
    refine TTx.lam (b := bdL (Lv e)) (f := D.1.2.2.1 (D.1.2.2.1 (fmR (Lv e).1 (piL (Lv e))))) (c1 := c) (r1 := r) (by omega) (by omega) (by omega) ?_ ?_ (by omega) ?_ ?_ hc ?_ hr ?_ (Or.inl ⟨?_, bN, ?_, bne.1⟩) ?_
    · rw [g5.2.2.1 14 NR (by decide) (by decide) (by omega), t6.2.2.1 14 NR (by decide) (by decide) (by omega)]; exact r4.1
    · rw [c3.2.2.1 16 NC (by decide) (by decide) (by omega)]; exact w2.1
    · rw [c3.2.2.1 18 NC (by decide) (by decide) (by omega)]; exact w2.2.2.1
    · rw [g5.2.2.1 15 NR (by decide) (by decide) (by omega), t6.2.2.1 15 NR (by decide) (by decide) (by omega)]; exact r4.2.1
    · rw [c3.2.2.1 17 NC (by decide) (by decide) (by omega)]; exact w2.2.1
    · rw [g5.2.2.1 16 NR (by decide) (by decide) (by omega), t6.2.2.1 16 NR (by decide) (by decide) (by omega)]; exact r4.2.2.1
    · rw [c3.2.2.1 20 NC (by decide) (by decide) (by omega)]; exact w2.2.2.2.2
    · rw [C.2.2.1 16 _ (by decide) (by decide) bN]; exact b16
    · rw [← ea]
      refine ht.gr (Nat.le_refl _) (fun k hk => ?_) C G hc hr
      show (if k = aR (Lv e).1 then bdL (Lv e) else sR (Lv e).1 k) = sR R' k
      by_cases ck : k = aR (Lv e).1
      · rw [if_pos ck, ck, eb]
      · rw [if_neg ck, l5 k (by omega)]
  have a2 : TTx s3 m4 D.1.1 (NC + 1) NR' (aR (Lv e).1) (sR (Lv e).1) := TTx.two (k := 65) (by omega) (by omega) (by omega) (by decide) r5.1 w3.1 (by omega) w3.2.1 t4 r5.2.2.1 (Nat.lt_succ_self _) w3.2.2.1 (by omega) r5.2.2.2.1 (t7.gr (Nat.le_refl _) (fun _ _ => rfl) c3 g5 (by omega) t4) a1
  have a3 : TTx s4 (uA m5 25 (nI e) 1) D.1.1 (NC + 1) NR' (aR (Lv e).1) (sR (Lv e).1) := a2.kg (e := e + 1) (Nat.le_refl _) (fun _ _ => rfl) (u2.kg (NC + 2)) ((d2.kg (NR' + 1)).tr (KGM.uA (by decide)) (Nat.le_refl _)) (by omega) (by omega)
  have cell3 : ∀ j, 24 < j → s3.2.1 j = sC.2.1 j := fun j hj => C.2.1 j (by omega)
  have cellM : ∀ j, (j < 14 ∨ 18 < j) → m4.2.1 j = sM.2.1 j := fun j hj => G.2.1 j (by omega)
  have hC4 := p1.2.2.2.2.2.1.1
  have hM5 := p1.2.2.2.2.2.1.2.1
  obtain ⟨ok, s', m', y1, y2, y3⟩ := same_one hn (i := piL (Lv e)) (f := D.1.2.2.2 (fmR (Lv e).1 (piL (Lv e)))) (c := NC + 1) (r := NR') h p1 (by omega) (by omega) hRc rfl rfl (Nat.le_refl _) (fun _ _ => rfl) (by simp only [uA_21, if_true, upd_j, nI_cl (show e < 2 ^ 31 by omega)]; rfl) (by rw [u3, C.1 17 (by decide)]; exact hS.2.2.2.2.2.1) (by show m5.1 22 = _; rw [d3, G.1 22 (by decide)]; exact hS.2.2.2.2.2.2.1) hS.2.2.2.2.2.2.2 (by rw [k5]; decide) (by omega) (Nat.lt_succ_self (NC + 1)) (Nat.lt_succ_self NR') a3
  have eC : f_X5_goOn n sC (nI e) 1 = f_X5_waitIf n s' (mI ok) (nI e) 0 := by
    rw [gon1 hd l1, if_neg (show ¬ nI 8 = (1 : Int32) by decide), if_neg (show ¬ nI 8 = (2 : Int32) by decide), if_neg (show ¬ nI 8 = (3 : Int32) by decide), if_neg (show ¬ nI 8 = (4 : Int32) by decide), if_neg (show ¬ nI 8 = (5 : Int32) by decide), if_neg (show ¬ nI 8 = (6 : Int32) by decide), if_neg (show ¬ nI 8 = (7 : Int32) by decide), if_pos (show nI 8 = (8 : Int32) by decide)]
    unfold f_X5_beginAfterNested
    rw [(kept42 hd).2.1, Option.bind_some, x1]
    simp only []
    rw [(fAtC hRR.1 (by omega) x3).1, Option.bind_some]
    simp only []
    rw [firstOfF0 hS.1.1 hf, Option.bind_some]
    simp only []
    rw [firstOfF0 hS.1.1 hp, Option.bind_some]
    simp only []
    rw [(kept42 hd).2.2.2, Option.bind_some, b34, h24]
    simp only []
    rw [lamC hS.2.1 (by omega), v2, Option.bind_some]
    simp only []
    rw [(fAtC hR1.1 (by omega) x3).2, Option.bind_some]
    simp only []
    rw [twoC k2 (by omega), v3, Option.bind_some]
    simp only []
    rw [goalC hRa.1 (by omega), Option.bind_some]
    simp only []
    rw [u1, Option.bind_some, secondOfF0 hC4 hf, Option.bind_some]
    simp only []
    rw [nI_1, y1, Option.bind_some]
    simp only [bind_eta]
  have eM : f_X12_resumed n sM (nI e) 1 = f_X12_going_231 n m' (mI ok) := by
    unfold f_X12_resumed f_X12_resumed2
    rw [inB_nI (show e < 201 by omega) (by omega), nI_cl (show e < 2 ^ 31 by omega), l2, x2, n60b, inB_nI (show 60 * e + piL (Lv e) < 12060 by omega) (by omega), nI_cl (show 60 * e + piL (Lv e) < 2 ^ 31 by omega), hrow.1, inB_nI (show fmR (Lv e).1 (piL (Lv e)) < 4200 by omega) (by omega), nI_cl (show fmR (Lv e).1 (piL (Lv e)) < 2 ^ 31 by omega), hmf.2.1, inB_nI (show D.1.2.2.1 (fmR (Lv e).1 (piL (Lv e))) < 4200 by omega) (by omega), nI_cl (show D.1.2.2.1 (fmR (Lv e).1 (piL (Lv e))) < 2 ^ 31 by omega), hmp.2.1, h25, hRR.2.1.2.2.1, hRR.2.1.2.2.2.1]
    simp only [if_true]
    rw [if_neg (show ¬ nI (8 + 1) = (1 : Int32) by decide), if_neg (show ¬ nI (8 + 1) = (2 : Int32) by decide), if_neg (show ¬ nI (8 + 1) = (3 : Int32) by decide), if_neg (show ¬ nI (8 + 1) = (4 : Int32) by decide), if_neg (show ¬ nI (8 + 1) = (5 : Int32) by decide), if_neg (show ¬ nI (8 + 1) = (6 : Int32) by decide), if_neg (show ¬ nI (8 + 1) = (7 : Int32) by decide), if_neg (show ¬ nI (8 + 1) = (8 : Int32) by decide), if_neg (show ¬ (1 : Int32) = 0 by decide), termM hS.2.2.1 (by omega), v4, Option.bind_some]
    simp only []
    rw [g4.2.1 26 (by decide), x2, t1, Option.bind_some]
    simp only []
    rw [termM t5 (by omega), v5, Option.bind_some]
    simp only []
    rw [cellM 26 (by decide), x2, d1, Option.bind_some, (hM5.2 _ hf).2.2, nI_1, y2, Option.bind_some, bind_eta]
    rfl
  rw [eC, eM]
  exact y3
theorem rule_proved {n : Nat} (hn : 100000 ≤ n) {D : HD} {Lv : Nat → LD} {e NC NR nC nM mo c r : Nat} {sC sM : StT} {R' : RW} (h : RP D Lv e NC NR nC nM mo c r sC sM R') : OUT n D Lv e NC NR nC nM sC sM (f_X5_goOn n sC (nI e) 1) (f_X12_resumed n sM (nI e) 1) := by
  have hs := h.2.1.1.2.2
  rcases (show stL (Lv e) = 0 ∨ stL (Lv e) = 1 ∨ stL (Lv e) = 2 ∨ stL (Lv e) = 3 ∨ stL (Lv e) = 4 ∨ stL (Lv e) = 5 ∨ (stL (Lv e) = 6 ∨ stL (Lv e) = 7) ∨ stL (Lv e) = 8 by omega) with x | x | x | x | x | x | x | x
  · exact res_0 h x
  · exact res_1 h x
  · exact res_2 hn h x
  · exact res_3 h x
  · exact res_4 hn h x
  · exact res_5 h x
  · exact res_67 h x
  · exact res_8 hn h x
