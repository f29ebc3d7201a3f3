/-! ===== a premise failed: stages 6, 7, 8 ===== -/
theorem adopt_first {n : Nat} (hn : 100000 ≤ n) {D : HD} {Lv : Nat → LD} {e NC NR nC nM mo bC bM : Nat} {p : WN} {sC sM : StT} {R' : RW} (h : RF D Lv e NC NR nC nM mo bC bM p sC sM R') (hL : lsL (Lv e) = []) :
    ∃ (s m1 m : StT) (A : LD), f_X4_adopt n sC (nI e) (nI p.2.1) = some s ∧ f_X12_newWorld n sM (nI e) = some (nI nM, m1) ∧ m1.1 26 = sM.1 26 ∧ f_X12_addChild n (uA m1 28 (nI e) (nI nM)) (nI nM) (nI p.2.2.2.2.1) = some m ∧ A.1 = (Lv e).1 ∧ (bCL A = bCL (Lv e) ∧ bML A = bML (Lv e)) ∧ lsL A ≠ [] ∧ nM + 1 + em A ≤ nM + em (Lv e) ∧ PRE D (up1 Lv e A) e NC NR nC (nM + 1) mo s m ∧ (XC sC s ∧ KGC 0 NC sC s) ∧ XM sM m ∧ (∀ j, 30 < j → s.2.1 j = sC.2.1 j) ∧ ∀ j, j < 28 → m.2.1 j = sM.2.1 j := by
  have hmk := h.mk
  obtain ⟨h, hl, hb, h1, h2, hf, h24, h26, hM2⟩ := h
  have hd := h.2.2.2.2.2.2.1
  have hnC := h.2.2.2.2.2.2.2.2.2.1
  have hS := h.1
  have hRR := h.2.2.1
  have hP := h.2.2.2.1
  rw [hL] at hP
  obtain ⟨⟨hh, f1⟩, f2, f3, f4, f5, f6, f7, f8⟩ := hf
  have hbb : ∀ i, i < zz (Lv e).1 → fmR (Lv e).1 i < D.1.1 := fun i hi => (hRR.2.2.2.2.1 i hi).1
  obtain ⟨w1, v1, v2, v3, _⟩ := newW (n := n) hn hS.1.2.1 hS.1.2.2.1 hRR.2.1 (by omega) hbb hS.2.2.2.2.1 (show nM < 2100 by omega)
  obtain ⟨s, m1, m, a1, a2, a3, a4, a5, a6, a7, a8, a9, a10, a11, a12, a13, a14⟩ := hP.first (n := n) hn (nC' := nC) (nM' := nM) hd f1 (by omega) f3 (by omega) f5 hmk f7 f8 hS.2.2.2.1 (by omega) hS.2.2.2.2.1 (by omega) hS.1.2.1 hS.1.2.2.1 hRR.2.1 hbb rfl
  have em1 : m1 = w1 := by rw [v1] at a2; exact ((Prod.mk.inj (Option.some.inj a2)).2).symm
  obtain ⟨q1, q2, q3⟩ := h.adopt (nM2 := nM + 1) a4 (by omega) a5 (fun j _ x y => a6 j x y) (fun i _ => by rw [a6 27 (by decide) (by decide)]) (fun j i _ x => a7 j i x) a8 a9 a10 a11 a12 (fun j i x y z => a13 j i x y (by have := hP.2.2.2.1; have := h.2.2.2.2.2.1; omega)) a14
  refine ⟨s, m1, m, ((Lv e).1, (Lv e).2.1, (bCL (Lv e), bML (Lv e), nC, nM + 1), [p]), a1, a2, by rw [em1]; exact v3 26 (by decide), a3, rfl, ⟨rfl, rfl⟩, (by show [p] ≠ []; simp), ?_, q1, q2, q3, fun j hj => a6 j (by omega) (by omega), fun j hj => a11 j (by omega)⟩
  unfold em
  rw [hL]
  exact Nat.le_refl _
theorem adopt_more {n : Nat} {D : HD} {Lv : Nat → LD} {e NC NR nC nM mo bC bM : Nat} {p : WN} {sC sM : StT} {R' : RW} (h : RF D Lv e NC NR nC nM mo bC bM p sC sM R') (hL : lsL (Lv e) ≠ []) :
    ∃ (w : Nat) (s m : StT) (A : LD), (0 : Int32) ≤ sM.2.1 28 e ∧ f_X4_adopt n sC (nI e) (nI p.2.1) = some s ∧ sM.2.1 28 e = nI w ∧ f_X12_addChild n sM (nI w) (nI p.2.2.2.2.1) = some m ∧ A.1 = (Lv e).1 ∧ (bCL A = bCL (Lv e) ∧ bML A = bML (Lv e)) ∧ nM + em A ≤ nM + em (Lv e) ∧ PRE D (up1 Lv e A) e NC NR nC nM mo s m ∧ (XC sC s ∧ KGC 0 NC sC s) ∧ XM sM m ∧ (∀ j, 30 < j → s.2.1 j = sC.2.1 j) ∧ ∀ j, j < 28 → m.2.1 j = sM.2.1 j := by
  have hmk := h.mk
  obtain ⟨h, hl, hb, h1, h2, hf, h24, h26, hM2⟩ := h
  have hd := h.2.2.2.2.2.2.1
  have hnC := h.2.2.2.2.2.2.2.2.2.1
  have hS := h.1
  have hP := h.2.2.2.1
  obtain ⟨⟨hh, f1⟩, f2, f3, f4, f5, f6, f7, f8⟩ := hf
  obtain ⟨w, s, m, a1, a2, a3, a4, a5, a6, a7, a8, a9, a10, a11, a12, a13⟩ := hP.more (n := n) (nC' := nC) (nM' := nM) hL hd f1 (by omega) f3 (by omega) f5 hmk f7 f8 hS.2.2.2.1 (by omega) (by omega)
  have hw : (0 : Int32) ≤ sM.2.1 28 e := by
    rcases hP.2.2.2.2.2 with ⟨z, _⟩ | ⟨l, k, w', b1, b2, b3, b4, b5, b6, b7, b8, _⟩
    · exact absurd z hL
    · have e1 := h.2.2.2.2.2.1
      rw [b8]; exact nI_nn (by omega)
  obtain ⟨q1, q2, q3⟩ := h.adopt (nM2 := nM) a4 (by omega) a5 (fun j x _ y => a6 j x y) a7 (fun j i x y => by
      rcases x with x | x
      · rw [x, a6 29 (by decide) (by decide)]
      · rw [x]; exact a8 i y) a9 (by rw [a10]; exact hS.2.2.2.2.1) (fun j _ => by rw [a10]) (fun j x => a11 j (by omega) (by omega)) (fun i _ => by rw [a11 28 (by decide) (by decide)]) (fun j i _ _ z => a12 j i z) a13
  refine ⟨w, s, m, ((Lv e).1, (Lv e).2.1, (bCL (Lv e), bML (Lv e), nC, nM), lsL (Lv e) ++ [p]), hw, a2, a1, a3, rfl, ⟨rfl, rfl⟩, ?_, q1, q2, q3, fun j hj => a6 j (by omega) (by omega), fun j hj => a11 j (by omega) (by omega)⟩
  have : em ((Lv e).1, (Lv e).2.1, (bCL (Lv e), bML (Lv e), nC, nM), lsL (Lv e) ++ [p]) = 0 := by
    unfold em
    rw [if_neg (show ¬ (lsL (Lv e) ++ [p]).isEmpty = true by simp)]
  omega
theorem fail_6 {n : Nat} (hn : 100000 ≤ n) {D : HD} {Lv : Nat → LD} {e NC NR nC nM mo bC bM : Nat} {p : WN} {sC sM : StT} {R' : RW} (h : RF D Lv e NC NR nC nM mo bC bM p sC sM R') (hst : stL (Lv e) = 6) : OUT n D Lv e NC NR nC nM sC sM (f_X5_goOn n sC (nI e) 0) (f_X12_resumed n sM (nI e) 0) := by
  have hd := h.1.2.2.2.2.2.2.1
  have hS := h.1.1
  have hRR := h.1.2.2.1
  have hw := hS.1.2.2.1
  have hF := hw.2.1
  have hgl := hRR.2.2.1
  have h24 := h.2.2.2.2.2.2.1
  have h26 := h.2.2.2.2.2.2.2.1
  obtain ⟨⟨l1, l2, _⟩, _, _, _, ⟨_, _, l7⟩, _, _, _, _, _, l13, _⟩ := h.2.1
  have k4 := l7 (by rw [hst]; decide)
  have hlo := hw.lo hgl (by omega)
  obtain ⟨s, m1, m, A, a1, a2, a3, a4, a5, a6, a7, a8, a9, a10, a11, a12, a13⟩ := adopt_first (n := n) hn h (l13 hst)
  rw [hst] at l1 l2
  have hRR' := a9.2.2.1
  rw [up1_e, a5] at hRR'
  have LS := lay_same hn (q := (7, 0, 0, 0, 0)) (g' := D.1.2.2.2 (gR (Lv e).1)) a9 (show 7 ∈ [2, 3, 6, 7] by decide) (by omega) (fun x => absurd (show 7 ∈ [2, 3] from x) (by decide)) (fun _ => by rw [up1_e, a5]; exact k4) (fun x => absurd (show (7 : Nat) = 3 from x) (by decide)) (fun x => absurd (show (7 : Nat) = 6 from x) (by decide)) (fun _ => by rw [up1_e]; exact a7)
  rw [up1_e, a5] at LS
  obtain ⟨s1, m2, y1, y2, y3⟩ := LS
  refine OUT.fr a10.1 a10.2 a11 (OUT.lv a5 a6 (Nat.le_succ _) a8 ?_)
  have q28 : (uA m1 28 (nI e) (nI nM)).2.1 28 e = nI nM := by simp only [uA_21, if_true, upd_j, nI_cl (show e < 2 ^ 31 by omega)]
  have q26 : (uA m1 28 (nI e) (nI nM)).1 26 = nI p.2.2.2.2.1 := a3.trans h26
  rw [failC hd l1, if_pos (show nI 6 = (6 : Int32) by decide), h24, a1, Option.bind_some, goalC hRR'.1 (by omega), Option.bind_some]
  simp only []
  rw [secondOfF0 a9.1.1.1 hgl, Option.bind_some]
  simp only []
  rw [y1, Option.bind_some, (waitC hd 7).1]
  unfold f_X12_resumed f_X12_resumed2
  rw [inB_nI (show e < 201 by omega) (by omega), nI_cl (show e < 2 ^ 31 by omega), l2, hRR.2.1.2.2.1, hRR.2.1.2.2.2.1, inB_nI (show gR (Lv e).1 < 4200 by omega) (by omega), nI_cl (show gR (Lv e).1 < 2 ^ 31 by omega)]
  simp only [if_true]
  rw [if_neg (show ¬ nI (6 + 1) = (1 : Int32) by decide), if_neg (show ¬ nI (6 + 1) = (2 : Int32) by decide), if_neg (show ¬ nI (6 + 1) = (3 : Int32) by decide), if_neg (show ¬ nI (6 + 1) = (4 : Int32) by decide), if_neg (show ¬ nI (6 + 1) = (5 : Int32) by decide), if_neg (show ¬ nI (6 + 1) = (6 : Int32) by decide), if_pos (show nI (6 + 1) = (7 : Int32) by decide), if_neg (show ¬ (0 : Int32) = 1 by decide), a2, Option.bind_some]
  simp only []
  rw [q28, q26, a4, Option.bind_some, (a9.1.1.2.1.2 _ hgl).2.2, y2, Option.bind_some, bind_eta, bind_eta]
  exact y3
theorem fail_7 {n : Nat} (hn : 100000 ≤ n) {D : HD} {Lv : Nat → LD} {e NC NR nC nM mo bC bM : Nat} {p : WN} {sC sM : StT} {R' : RW} (h : RF D Lv e NC NR nC nM mo bC bM p sC sM R') (hst : stL (Lv e) = 7) : OUT n D Lv e NC NR nC nM sC sM (f_X5_goOn n sC (nI e) 0) (f_X12_resumed n sM (nI e) 0) := by
  have hd := h.1.2.2.2.2.2.2.1
  have hz := h.1.2.2.1.1.2.1
  have h24 := h.2.2.2.2.2.2.1
  have h26 := h.2.2.2.2.2.2.2.1
  obtain ⟨⟨l1, l2, _⟩, _, _, _, _, _, _, _, _, _, _, l14⟩ := h.2.1
  obtain ⟨w, s, m, A, a0, a1, a2, a3, a4, a5, a6, a7, a8, a9, a10, a11⟩ := adopt_more (n := n) h (l14 hst)
  rw [hst] at l1 l2
  refine OUT.fr a8.1 a8.2 a9 (OUT.lv a4 a5 (Nat.le_refl _) a6 ?_)
  rw [failC hd l1, if_neg (show ¬ nI 7 = (6 : Int32) by decide), if_pos (show nI 7 = (7 : Int32) by decide), h24, a1, Option.bind_some]
  unfold f_X12_resumed f_X12_resumed2
  rw [inB_nI (show e < 201 by omega) (by omega), nI_cl (show e < 2 ^ 31 by omega), l2, a2, h26]
  simp only [if_true]
  rw [if_neg (show ¬ nI (7 + 1) = (1 : Int32) by decide), if_neg (show ¬ nI (7 + 1) = (2 : Int32) by decide), if_neg (show ¬ nI (7 + 1) = (3 : Int32) by decide), if_neg (show ¬ nI (7 + 1) = (4 : Int32) by decide), if_neg (show ¬ nI (7 + 1) = (5 : Int32) by decide), if_neg (show ¬ nI (7 + 1) = (6 : Int32) by decide), if_neg (show ¬ nI (7 + 1) = (7 : Int32) by decide), if_pos (show nI (7 + 1) = (8 : Int32) by decide), if_neg (show ¬ (0 : Int32) = 1 by decide), a3, Option.bind_some, bind_eta, bind_eta]
  unfold f_X5_tryNested f_X12_needs
  rw [if_neg (show ¬ (0 : Int32) < 0 by decide), show (0 : Int32) = nI 0 from rfl]
  exact rule_needs hn a7 (zz (Lv e).1) 0 n n (by rw [up1_e, a4]; omega) (by omega) (by omega)
theorem fail_8 {n : Nat} (hn : 100000 ≤ n) {D : HD} {Lv : Nat → LD} {e NC NR nC nM mo bC bM : Nat} {p : WN} {sC sM : StT} {R' : RW} (h : RF D Lv e NC NR nC nM mo bC bM p sC sM R') (hst : stL (Lv e) = 8) : OUT n D Lv e NC NR nC nM sC sM (f_X5_goOn n sC (nI e) 0) (f_X12_resumed n sM (nI e) 0) := by
  have hd := h.1.2.2.2.2.2.2.1
  have hz := h.1.2.2.1.1.2.1
  have h24 := h.2.2.2.2.2.2.1
  have h26 := h.2.2.2.2.2.2.2.1
  obtain ⟨⟨l1, l2, _⟩, _, _, _, _, _, _, l10, _⟩ := h.2.1
  obtain ⟨x1, x2, x3⟩ := l10 (by rw [hst]; decide)
  rw [hst] at l1 l2
  have hng : ¬ nI (piL (Lv e) + 1) < (0 : Int32) := nI_nneg (by omega)
  rw [failC hd l1, if_neg (show ¬ nI 8 = (6 : Int32) by decide), if_neg (show ¬ nI 8 = (7 : Int32) by decide), if_pos (show nI 8 = (8 : Int32) by decide), h24]
  unfold f_X12_resumed f_X12_resumed2
  rw [inB_nI (show e < 201 by omega) (by omega), nI_cl (show e < 2 ^ 31 by omega), l2, x2, n60b, inB_nI (show 60 * e + piL (Lv e) < 12060 by omega) (by omega)]
  simp only [if_true]
  rw [if_neg (show ¬ nI (8 + 1) = (1 : Int32) by decide), if_neg (show ¬ nI (8 + 1) = (2 : Int32) by decide), if_neg (show ¬ nI (8 + 1) = (3 : Int32) by decide), if_neg (show ¬ nI (8 + 1) = (4 : Int32) by decide), if_neg (show ¬ nI (8 + 1) = (5 : Int32) by decide), if_neg (show ¬ nI (8 + 1) = (6 : Int32) by decide), if_neg (show ¬ nI (8 + 1) = (7 : Int32) by decide), if_neg (show ¬ nI (8 + 1) = (8 : Int32) by decide), bind_eta]
  unfold f_X12_resumed2_193
  rw [inB_nI (show e < 201 by omega) (by omega), nI_cl (show e < 2 ^ 31 by omega)]
  simp only [if_true, bind_eta]
  by_cases hL : lsL (Lv e) = []
  · obtain ⟨s, m1, m, A, a1, a2, a3, a4, a5, a6, a7, a8, a9, a10, a11, a12, a13⟩ := adopt_first (n := n) hn h hL
    have f28 : sM.2.1 28 e = -1 := by
      rcases h.1.2.2.2.1.2.2.2.2.2 with ⟨_, _, _, z⟩ | ⟨l, k, w, z, _⟩
      · exact z
      · rw [hL] at z; exact absurd z (by simp)
    have q28 : (uA m1 28 (nI e) (nI nM)).2.1 28 e = nI nM := by simp only [uA_21, if_true, upd_j, nI_cl (show e < 2 ^ 31 by omega)]
    have q26 : (uA m1 28 (nI e) (nI nM)).1 26 = nI p.2.2.2.2.1 := a3.trans h26
    refine OUT.fr a10.1 a10.2 a11 (OUT.lv a5 a6 (Nat.le_succ _) a8 ?_)
    rw [f28, if_neg (show ¬ (0 : Int32) ≤ -1 by decide), a1, Option.bind_some, a2, Option.bind_some]
    simp only []
    rw [q28, q26, a4, Option.bind_some, a13 26 (by decide), x2, nI_1, (kept42 hd).2.1, Option.bind_some, a12 32 (by decide), x1]
    simp only []
    rw [nI_1]
    unfold f_X5_tryNested f_X12_needs
    rw [if_neg hng]
    exact rule_needs hn a9 (zz (Lv e).1 - (piL (Lv e) + 1)) (piL (Lv e) + 1) n n (by rw [up1_e, a5]; omega) (by omega) (by omega)
  · obtain ⟨w, s, m, A, a0, a1, a2, a3, a4, a5, a6, a7, a8, a9, a10, a11⟩ := adopt_more (n := n) h hL
    refine OUT.fr a8.1 a8.2 a9 (OUT.lv a4 a5 (Nat.le_refl _) a6 ?_)
    rw [if_pos a0, a1, Option.bind_some, a2, h26, a3, Option.bind_some, a11 26 (by decide), x2, nI_1, (kept42 hd).2.1, Option.bind_some, a10 32 (by decide), x1]
    simp only []
    rw [nI_1]
    unfold f_X5_tryNested f_X12_needs
    rw [if_neg hng]
    exact rule_needs hn a7 (zz (Lv e).1 - (piL (Lv e) + 1)) (piL (Lv e) + 1) n n (by rw [up1_e, a4]; omega) (by omega) (by omega)
theorem rule_failed {n : Nat} (hn : 100000 ≤ n) {D : HD} {Lv : Nat → LD} {e NC NR nC nM mo bC bM : Nat} {p : WN} {sC sM : StT} {R' : RW} (h : RF D Lv e NC NR nC nM mo bC bM p sC sM R') : OUT n D Lv e NC NR nC nM sC sM (f_X5_goOn n sC (nI e) 0) (f_X12_resumed n sM (nI e) 0) := by
  have hs := h.2.1.1.2.2
  rcases (show stL (Lv e) ≤ 5 ∨ stL (Lv e) = 6 ∨ stL (Lv e) = 7 ∨ stL (Lv e) = 8 by omega) with x | x | x | x
  · exact fail_05 h x
  · exact fail_6 hn h x
  · exact fail_7 hn h x
  · exact fail_8 hn h x
