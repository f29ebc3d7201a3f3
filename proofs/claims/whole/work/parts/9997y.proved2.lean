/-! ===== a premise was proved: stages 2, 4, 8 ===== -/
theorem OUT.fr {n : Nat} {D : HD} {Lv : Nat → LD} {d NC NR nC nM : Nat} {sC sM s1 m1 : StT} {rc rm : Option (Int32 × StT)} (xC : XC sC s1) (kC : KGC 0 NC sC s1) (xM : XM sM m1) (o : OUT n D Lv d NC NR nC nM s1 m1 rc rm) : OUT n D Lv d NC NR nC nM sC sM rc rm := by
  obtain ⟨D', a, b, c, d', f, s', m', y1, y2, y3⟩ := o
  exact ⟨D', a, b, c, d', f, s', m', ⟨xC.tr y1.1, kC.tr y1.2 (Nat.le_refl _)⟩, xM.tr y2, y3⟩
theorem PRE.cell {D : HD} {Lv : Nat → LD} {d NC NR nC nM mo k k' : Nat} {sC sM : StT} {x y : Int32} (h : PRE D Lv d NC NR nC nM mo sC sM) (hk : 30 < k ∧ k < 35) (hk' : 24 < k' ∧ k' < 28) : PRE D Lv d NC NR nC nM mo (uA sC k (nI d) x) (uA sM k' (nI d) y) := by
  obtain ⟨hS, hLO, hRR, hPL, c1, c2, hd, c3⟩ := h
  have fC := FLC.cell (d := d) (N := NC) (b := bCL (Lv d)) (k := k) (s := sC) (x := x) (by omega) (by omega)
  have fM := FLM.cell (d := d) (N := NR) (b := bML (Lv d)) (k := k') (s := sM) (x := y) (by omega) (by omega)
  have eC : ∀ j, (j < 31 ∨ 34 < j) → (uA sC k (nI d) x).2.1 j = sC.2.1 j := fun j hj => by simp only [uA_21]; rw [if_neg (by omega)]
  have eM : ∀ j, (j < 25 ∨ 27 < j) → (uA sM k' (nI d) y).2.1 j = sM.2.1 j := fun j hj => by simp only [uA_21]; rw [if_neg (by omega)]
  refine ⟨⟨hS.1.mv rfl rfl (fun j p q => eC j (by omega)) rfl rfl rfl (fun j p => eM j (by omega)), hS.2⟩, hLO.gr hS.1.2.2.1 fC.1 fM.1 (Nat.le_refl _) (fun _ _ => ⟨rfl, rfl, rfl⟩) (Nat.le_refl _) (Nat.le_refl _), hRR.gr (Nat.lt_succ_self d) fC.2 fM.2 (Nat.le_refl _) (Nat.le_refl _) (Nat.le_refl _), hPL.gr (fun j i p q _ => by rw [eC j (by omega)]) (fun j hj => by rw [eC j (by omega)]) (fun j i p q _ => by rw [eM j (by omega)]) (by rw [eM 28 (by decide)]), c1, c2, hd, c3⟩
theorem res_2 {n : Nat} (hn : 100000 ≤ n) {D : HD} {Lv : Nat → LD} {e NC NR nC nM mo c r : Nat} {sC sM : StT} {R' : RW} (h : RP D Lv e NC NR nC nM mo c r sC sM R') (hst : stL (Lv e) = 2) : OUT n D Lv e NC NR nC nM sC sM (f_X5_goOn n sC (nI e) 1) (f_X12_resumed n sM (nI e) 1) := by
  obtain ⟨h, hl, hc, hr, h24, h25, ht⟩ := h
  have hd := h.2.2.2.2.2.2.1
  have hS := h.1
  have hRR := h.2.2.1
  have hw := hS.1.2.2.1
  have hF := hw.2.1
  have hgl := hRR.2.2.1
  obtain ⟨⟨l1, l2, l3⟩, l4, l5, l6, ⟨_, l7, _⟩, _⟩ := hl
  have k3 := l7 (by rw [hst]; decide)
  rw [hst] at l1 l2 l6
  have hlo := hw.lo hgl (by omega)
  have ea : aR R' = aR (Lv e).1 := by
    rcases l6 with ⟨_, x⟩ | ⟨x, _⟩
    · exact x
    · exact absurd x (by decide)
  have h' := h.cell (k := 33) (k' := 27) (x := nI c) (y := nI r) (by decide) (by decide)
  have hRR' := h'.2.2.1
  have hg' := h'.1.1.1
  have hm' := h'.1.1.2.1.2 _ hgl
  obtain ⟨s1, m1, y1, y2, y3⟩ := lay_same hn (q := (3, 0, c, r, 0)) (g' := D.1.2.2.2 (gR (Lv e).1)) h' (show 3 ∈ [2, 3, 6, 7] by decide) (by omega) (fun _ => k3) (fun x => absurd (show 3 ∈ [6, 7] from x) (by decide)) (fun _ => ⟨by simp only [uA_21, if_true, upd_j, nI_cl (show e < 2 ^ 31 by omega)], by simp only [uA_21, if_true, upd_j, nI_cl (show e < 2 ^ 31 by omega)], hc, hr, by rw [← ea]; exact ht.kg (e := 0) (Nat.le_refl _) (fun k hk => (l5 k (by omega)).symm) (KGC.uA (N := NC) (by decide)) (KGM.uA (N := NR) (by decide)) hc hr⟩) (fun x => absurd (show (3 : Nat) = 6 from x) (by decide)) (fun x => absurd (show (3 : Nat) = 7 from x) (by decide))
  refine OUT.fr (XC.a (k := 33) (i := nI e) (x := nI c) (by decide)) (KGC.uA (by decide)) (XM.a (k := 27) (i := nI e) (x := nI r) (by decide)) ?_
  rw [gon1 hd l1]
  unfold f_X12_resumed
  rw [inB_nI (show e < 201 by omega) (by omega), nI_cl (show e < 2 ^ 31 by omega), l2, h25, hRR.2.1.2.2.1, hRR.2.1.2.2.2.1, inB_nI (show gR (Lv e).1 < 4200 by omega) (by omega), nI_cl (show gR (Lv e).1 < 2 ^ 31 by omega), hm'.2.2]
  simp only [if_true]
  rw [if_neg (show ¬ nI 2 = (1 : Int32) by decide), if_pos (show nI 2 = (2 : Int32) by decide), if_neg (show ¬ nI (2 + 1) = (1 : Int32) by decide), if_neg (show ¬ nI (2 + 1) = (2 : Int32) by decide), if_pos (show nI (2 + 1) = (3 : Int32) by decide), if_neg (show ¬ (1 : Int32) = 0 by decide), h24, (keep42 hd (nI c)).2.2.1, Option.bind_some, goalC hRR'.1 (by omega), Option.bind_some]
  simp only []
  rw [secondOfF0 hg' hgl, Option.bind_some]
  simp only []
  rw [y1, y2, Option.bind_some, Option.bind_some, (waitC hd 3).1, bind_eta]
  exact y3
theorem res_4 {n : Nat} (hn : 100000 ≤ n) {D : HD} {Lv : Nat → LD} {e NC NR nC nM mo c r : Nat} {sC sM : StT} {R' : RW} (h : RP D Lv e NC NR nC nM mo c r sC sM R') (hst : stL (Lv e) = 4) : OUT n D Lv e NC NR nC nM sC sM (f_X5_goOn n sC (nI e) 1) (f_X12_resumed n sM (nI e) 1) := by
  obtain ⟨h, hl, hc, hr, h24, h25, ht⟩ := h
  have hd := h.2.2.2.2.2.2.1
  have hNR := h.2.2.2.2.2.2.2.2.1
  have hS := h.1
  have hRR := h.2.2.1
  have hw := hS.1.2.2.1
  have hF := hw.2.1
  have hz := hRR.1.2.1
  have hgl := hRR.2.2.1
  obtain ⟨⟨l1, l2, l3⟩, l4, l5, l6, _, _, _, l10, l11, _⟩ := hl
  obtain ⟨x1, x2, x3⟩ := l10 (by rw [hst]; decide)
  have k4 := l11 (by rw [hst]; decide)
  rw [hst] at l1 l2 l6
  obtain ⟨ea, eb, b34, bN, b16, bne⟩ : aR R' = aR (Lv e).1 + 1 ∧ sR R' (aR (Lv e).1) = bdL (Lv e) ∧ sC.2.1 34 e = nI (bdL (Lv e)) ∧ bdL (Lv e) < NC ∧ sC.2.1 16 (bdL (Lv e)) = 104 ∧ FRE (Lv e).1 (bdL (Lv e)) := by
    rcases l6 with ⟨x, _⟩ | ⟨_, x⟩
    · exact absurd x (by decide)
    · exact x
  have hf := (hRR.2.2.2.2.1 _ x3).1
  have hlo := hw.lo hf (by omega)
  have p := ((PRG.start (d := e) hS).cc 33 (by decide) (by omega) (nI c)).mc 27 (by decide) (by omega) (nI r)
  have hR1 := hRR.gr (Nat.lt_succ_self e) p.2.2.1.1 p.2.2.1.2 (Nat.le_refl _) (Nat.le_refl _) (Nat.le_refl _)
  have cC : ∀ j, j ≠ 33 → (uA sC 33 (nI e) (nI c)).2.1 j = sC.2.1 j := fun j hj => by simp only [uA_21]; rw [if_neg hj]
  have cM : ∀ j, j ≠ 27 → (uA sM 27 (nI e) (nI r)).2.1 j = sM.2.1 j := fun j hj => by simp only [uA_21]; rw [if_neg hj]
  obtain ⟨s2, m2, m3, s3, m4, ok, e1, e2, e3, e4, e5, e6, e7, e8, e9, eO⟩ := lay_hyp hn (q := (5, piL (Lv e), c, r, bdL (Lv e))) (w := piL (Lv e)) (wI := nI (piL (Lv e))) (g' := gR (Lv e).1) (f := D.1.2.2.2 (fmR (Lv e).1 (piL (Lv e)))) (b := bdL (Lv e)) (mo1 := mo) h p hS.2.2.2.2.2.1 hS.2.2.2.2.2.2.1 hS.2.2.2.2.2.2.2 hR1 (by omega) (by omega) (at_w hz x3) (Or.inr (by rw [k4]; decide)) hgl (by omega) bN (by rw [cC 16 (by decide)]; exact b16) (by rw [cC 34 (by decide)]; exact b34) bne (show 5 ∈ [1, 4, 5] by decide) rfl (fun x => absurd (show (5 : Nat) = 1 from x) (by decide)) (fun _ => ⟨by rw [cC 32 (by decide)]; exact x1, by rw [cM 26 (by decide)]; exact x2, x3, k4⟩) (fun _ => ⟨by simp only [uA_21, if_true, upd_j, nI_cl (show e < 2 ^ 31 by omega)], by simp only [uA_21, if_true, upd_j, nI_cl (show e < 2 ^ 31 by omega)], hc, hr, by
      rw [← ea]
      refine ht.kg (e := 0) (Nat.le_refl _) (fun k hk => ?_) (KGC.uA (N := NC) (by decide)) (KGM.uA (N := NR) (by decide)) hc hr
      show (if k = aR (Lv e).1 then bdL (Lv e) else sR (Lv e).1 k) = sR R' k
      by_cases ck : k = aR (Lv e).1
      · rw [if_pos ck, ck, eb]
      · rw [if_neg ck, l5 k (by omega)]⟩)
  have hC2 : CFt s2 D.1 := CFt.ag (by rw [e5]; rfl) (by rw [e3.2.1 2 (by decide), cC 2 (by decide)]) (by rw [e3.2.1 3 (by decide), cC 3 (by decide)]) (by rw [e3.2.1 4 (by decide), cC 4 (by decide)]) (by rw [e3.2.1 5 (by decide), cC 5 (by decide)]) (by rw [e3.2.1 6 (by decide), cC 6 (by decide)]) hS.1.1
  have mj : ∀ j, (j < 19 ∨ 24 < j) → j ≠ 25 → j ≠ 27 → (uA m2 25 (nI e) (6 : Int32)).2.1 j = sM.2.1 j := fun j p q r => by
    simp only [uA_21]; rw [if_neg q, e4.2.1 j p, cM j r]
  have m19 : (uA m2 25 (nI e) (6 : Int32)).2.1 19 (60 * e + piL (Lv e)) = nI (fmR (Lv e).1 (piL (Lv e))) := by
    simp only [uA_21, if_neg (show ¬ (19 : Nat) = 25 by decide)]
    rw [e4.2.2.1 19 _ (by decide) (by omega), cM 19 (by decide)]; exact (hRR.2.1.2.2.2.2 _ x3).1
  have s34 : s2.2.1 34 e = nI (bdL (Lv e)) := by rw [e3.2.1 34 (by decide), cC 34 (by decide)]; exact b34
  have eC : f_X5_goOn n sC (nI e) 1 = if ok = true then some (2, uA s3 31 (nI e) (nI 5)) else some (-7, s3) := by
    rw [gon1 hd l1, if_neg (show ¬ nI 4 = (1 : Int32) by decide), if_neg (show ¬ nI 4 = (2 : Int32) by decide), if_neg (show ¬ nI 4 = (3 : Int32) by decide), if_pos (show nI 4 = (4 : Int32) by decide)]
    unfold f_X5_beginRightCase
    rw [(kept42 hd).2.1, Option.bind_some, x1]
    simp only []
    rw [(fAtC hRR.1 (by omega) x3).1, Option.bind_some]
    simp only []
    rw [h24, (keep42 hd (nI c)).2.2.1, Option.bind_some, (kept42 hd).2.1, Option.bind_some, cC 32 (by decide), x1]
    simp only []
    rw [goalC hR1.1 (by omega), Option.bind_some]
    simp only []
    rw [e1, Option.bind_some, secondOfF0 hC2 hf, Option.bind_some]
    simp only []
    rw [(kept42 hd).2.2.2, Option.bind_some, s34]
    simp only []
    rw [nI_1, e8, Option.bind_some]
    simp only [bind_eta]
    cases ok with
    | true => rw [show mI true = (1 : Int32) from rfl, (waitC hd _).2.2]; rfl
    | false => rw [show mI false = (0 : Int32) from rfl, (waitC hd _).2.1]; rfl
  have eM : f_X12_resumed n sM (nI e) 1 = if ok = true then f_X12_begin n m4 else some (3, m4) := by
    unfold f_X12_resumed
    rw [inB_nI (show e < 201 by omega) (by omega), nI_cl (show e < 2 ^ 31 by omega), l2, h25, cM 26 (by decide), x2, hRR.2.1.2.2.1, hRR.2.1.2.2.2.1]
    simp only [if_true]
    rw [if_neg (show ¬ nI (4 + 1) = (1 : Int32) by decide), if_neg (show ¬ nI (4 + 1) = (2 : Int32) by decide), if_neg (show ¬ nI (4 + 1) = (3 : Int32) by decide), if_neg (show ¬ nI (4 + 1) = (4 : Int32) by decide), if_pos (show nI (4 + 1) = (5 : Int32) by decide), if_neg (show ¬ (1 : Int32) = 0 by decide), nI_1, e2, Option.bind_some, mj 26 (by decide) (by decide) (by decide), x2, n60b, inB_nI (show 60 * e + piL (Lv e) < 12060 by omega) (by omega), nI_cl (show 60 * e + piL (Lv e) < 2 ^ 31 by omega), m19, inB_nI (show fmR (Lv e).1 (piL (Lv e)) < 4200 by omega) (by omega), nI_cl (show fmR (Lv e).1 (piL (Lv e)) < 2 ^ 31 by omega), mj 2 (by decide) (by decide) (by decide), (hS.1.2.1.2 _ hf).2.2, nI_1]
    simp only [if_true]
    rw [show (uA m2 25 (nI e) (6 : Int32)) = uA m2 25 (nI e) (nI (5 + 1)) from rfl, e7, Option.bind_some]
    simp only []
    rw [e9, Option.bind_some]
    simp only [bind_eta]
    cases ok <;> rfl
  rw [eC, eM]
  exact eO
