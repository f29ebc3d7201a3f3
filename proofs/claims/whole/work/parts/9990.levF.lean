/-! ===== the levels of a formula: the class calls, the reference piles up ===== -/
theorem row0_o {s : StT} {e lv i j : Nat} (h : i ≠ e) (he : e < 400) : (row0 s e lv).2.1 j i = s.2.1 j i := by
  unfold row0
  simp only [uA_21]
  by_cases c : j = 11
  · rw [if_pos c, upd_j, nI_cl (by omega), if_neg h]
    rw [if_neg (by omega)]
  · rw [if_neg c]
    by_cases c2 : j = 10
    · rw [if_pos c2, upd_j, nI_cl (by omega), if_neg h]
    · rw [if_neg c2]
theorem OkF.tr {n : Nat} {X : TX} {D D2 : HD} {pl p p2 o d fo fo2 : Nat} {sC sM c2 m2 : StT} {Run Run2 : Int32 × StT → Prop} {r : Int32} {sC' : StT} (h : OkF n X D2 p2 p2 o d fo2 c2 m2 Run2 r sC') (hG : Gd D D2) (fC : FRC sC c2) (fM : FRM d sM m2) (hp : pl ≤ p2) (hfo : fo + p ≤ fo2 + p2) (hR : ∀ res, Run2 res → Run res) : OkF n X D pl p o d fo sC sM Run r sC' := by
  rcases h with ⟨f, D', p', sM', fo', h1, h2, h3, h4, h5, h6, h7, h8, h9, h10⟩ | ⟨D', sM', h1, h2, h3, h4, h5⟩
  · exact Or.inl ⟨f, D', p', sM', fo', h1, h2, h3, h4, hG.tr h5, by omega, fC.tr h7, fM.tr h8, by omega, fun res hU => hR res (h10 res hU)⟩
  · exact Or.inr ⟨D', sM', h1, hG.tr h2, fC.tr h3, (fM.lo (Nat.zero_le _)).tr h4, hR _ h5⟩
/-- the same join, where the class closes after it and the reference before -/
theorem join3 {n : Nat} (hn : 100000 ≤ n) {X : TX} {D : HD} {p o : Nat} {sC sM : StT} (h : RS X D p (o + 1) sC sM) {k a b : Nat} (hk : 3 ≤ k ∧ k ≤ 5) (ha : a < D.1.1) (hb : b < D.1.1) (x : Int32) :
    (∃ f D' sC' sM', f_X3_join n sC (nI k) (nI a) (nI b) x = some (nI f, sC') ∧ f_X12_madeAt n (uF sM 13 (sM.1 13 - 1)) (nI k) (nI a) (nI b) x = some (nI f, sM') ∧ RS X D' p o (uF sC' 9 (sC'.1 9 - 1)) sM' ∧ f < D'.1.1 ∧ Gd D D' ∧ FRC sC sC' ∧ FrM (uF sM 13 (sM.1 13 - 1)) sM')
    ∨ ∃ D' sC' sM', f_X3_join n sC (nI k) (nI a) (nI b) x = some (-1, sC') ∧ f_X12_madeAt n (uF sM 13 (sM.1 13 - 1)) (nI k) (nI a) (nI b) x = some (-1, sM') ∧ RX D' sC' sM' ∧ Gd D D' ∧ FRC sC sC' ∧ ∀ d, FRM d sM sM' := by
  have hH := h.close.1.1
  have hw := hH.2.2.1
  have hl := hw.2.1
  have hc0 := h.1.2.2.2.2.2.1
  obtain ⟨c1, ec, ec1, ec2⟩ := joinedC hn h.1.1.1 hw (k := k) (a := a) (b := b) (by omega) (by omega) (by omega)
  obtain ⟨m1, em, em1, em2⟩ := joinedM hn hH.2.1 hw (k := k) (a := a) (b := b) (by omega) (by omega) (by omega)
  have e9 : c1.1 9 = sC.1 9 := ec2.1 9 (by decide)
  have fc : FrC (uF sC 9 (sC.1 9 - 1)) (uF c1 9 (c1.1 9 - 1)) := by
    refine ⟨fun j hj => ?_, ec2.2.1, ec2.2.2⟩
    simp only [uF_1]
    by_cases c : j = 9
    · rw [if_pos c, if_pos c, e9]
    · rw [if_neg c, if_neg c]; exact ec2.1 j hj
  have hg := hH.join hk ha hb (sC' := uF c1 9 (c1.1 9 - 1)) ec1 em1 fc em2
  have hr := h.close.grow hg.1 fc em2
  cases e : (jn D.1 k a b).1 with
  | some f =>
    have hf := jn_lt e
    have hf2 : f < 2 ^ 31 := by have := hg.1.2.2.1.2.1; simp only [] at this; omega
    left
    refine ⟨f, _, c1, m1, ?_, ?_, hr, hf, hg.2, ec2.fr, em2⟩
    · unfold f_X3_join
      rw [if_pos hc0, ec, Option.bind_some]
      simp only []
      rw [e, if_neg (show ¬ oI (some f) < 0 from nI_nneg hf2)]
      rfl
    · unfold f_X12_madeAt
      rw [em, Option.bind_some]
      simp only []
      rw [e, if_pos (show 0 ≤ oI (some f) from nI_nn hf2)]
      rfl
  | none =>
    right
    have hX : RX ((jn D.1 k a b).2, D.2) (uF (uF c1 10 5) 11 x) (uF (uF m1 10 5) 11 x) := (HS.fault hg.1 (c := 5) (by decide) (by decide) rfl).mv rfl rfl rfl rfl (fun _ _ _ => rfl) rfl rfl rfl rfl rfl (fun _ _ => rfl)
    refine ⟨_, uF (uF c1 10 5) 11 x, uF (uF m1 10 5) 11 x, ?_, ?_, hX, hg.2, ec2.fr.tr (FRC.fl _ _ _), fun d => ((FRM.op d _ _).tr (em2.fr d)).tr (FRM.fl _ _ _ _)⟩
    · unfold f_X3_join
      rw [if_pos hc0, ec, Option.bind_some]
      simp only []
      rw [e, if_pos (show oI none < 0 by decide)]
      unfold f_X3_fail
      rw [if_pos (show c1.1 10 = 0 from hr.1.2.2.2.2.2.1), Option.bind_some]
    · unfold f_X12_madeAt
      rw [em, Option.bind_some]
      simp only []
      rw [e, if_neg (show ¬ 0 ≤ oI none by decide)]
      unfold f_X12_fail
      rw [if_pos hr.1.2.2.2.2.2.2, Option.bind_some]
      rfl
theorem lv4 {n : Nat} (hn : 100000 ≤ n) {dr : Nat} {c0 c1 c2 c3 c4 : StT → Option (Int32 × StT)} (ih4 : LvF n 4 c4 dr) (ih0 : LvF n 0 c0 dr) : LvF n 4 (fun st => g_X3_readNot n c0 c1 c2 c3 c4 st) (dr + 1) := by
  intro X D p o d fo sC sM h h10 h11 hdr hd hfo
  have hdn : d < 400 := by omega
  have hpn := h.2.1
  have hbt : ∀ i, i < X.2.1 → X.2.2 i < 256 := fun i hi => (h.1.2.1.1.2.2 i hi).2
  have hmem := tk_mem (tm := X.1) hbt (skX X p)
  obtain ⟨fo, rfl⟩ : ∃ q, fo = q + 1 := ⟨fo - 1, by omega⟩
  rcases look2 hn h with ⟨k1, m1, ec, em, hB, hT, fC, fM, e17, e2⟩ | ⟨k1, m1, ec, em, hX, fC, fM, e17, e2⟩
  · have r10 : m1.2.1 10 d = nI 4 := by rw [e2]; exact h10
    have h0 := hB.2.2.2.2.2.2
    have hc0 := hB.2.2.2.2.2.1
    by_cases k126 : (tkX X (skX X p)).1 = 126
    · have kM : (tkX X (skX X p)).2.1 = 126 := (tkp_s _ hmem 126 (by decide)).mp k126
      have hBA : RB X D o k1 (uA m1 13 (nI d) (m1.1 6)) := hB.mv (fun _ _ _ _ _ => rfl) rfl rfl (fun _ _ _ _ _ _ _ => rfl) (fun j hj => by simp only [uA_21]; rw [if_neg (by omega)])
      rcases opens2 (n := n) (p := p) hBA hT with ⟨ho, eo, en, hB2, hT2⟩ | ⟨eo, en, hX⟩
      · have tk := take2 hB2 hpn hT2
        have hp1 := tk.2.2 (by rw [k126]; decide)
        generalize hp1d : skX X p + (tkX X (skX X p)).2.2 = p1 at tk hp1
        have hp1n := tk.1.2.1
        generalize hm3 : (uF (uF (uF (uA m1 13 (nI d) (m1.1 6)) 13 (nI (o + 1))) 4 ((uF (uA m1 13 (nI d) (m1.1 6)) 13 (nI (o + 1))).1 6 + (uF (uA m1 13 (nI d) (m1.1 6)) 13 (nI (o + 1))).1 7)) 8 0) = m3 at tk
        have ebn : f_X12_beginNot n sM (nI d) = some (nI 4, uA m3 11 (nI d) 1) := by
          unfold f_X12_beginNot
          rw [em, Option.bind_some]
          simp only []
          rw [if_pos h0, if_pos kM, inB_nI hdn (by omega), if_pos rfl, en, Option.bind_some]
          simp only []
          rw [if_neg (by decide)]
          unfold f_X12_pass
          rw [Option.bind_some, if_true, hm3]
          rfl
        have m30 : (uA m3 11 (nI d) 1).1 10 = 0 := tk.1.1.2.2.2.2.2.2
        have hR : RS X D p1 (o + 1) (uF (uF k1 9 (nI (o + 1))) 2 0) (row0 (uA m3 11 (nI d) 1) (d + 1) 4) := (tk.1.rows (sM' := uA m3 11 (nI d) 1) (fun _ _ => rfl) (fun j hj => by simp only [uA_21]; rw [if_neg (by omega)])).rw0 _ _
        have fM3 : FRM d sM (uA m3 11 (nI d) 1) := by
          rw [← hm3]
          exact ((((fM d).tr (FRM.ar _ 13 _ _ (by decide) rfl (Nat.le_refl d) (by omega))).tr (FRM.op _ _ _)).tr (FRM.ps _ _ _ _)).tr (FRM.ar _ 11 _ _ (by decide) rfl (Nat.le_refl d) (by omega))
        have r3 : m3.2.1 10 d = nI 4 ∧ m3.2.1 13 d = nI (skX X p) := by
          rw [← hm3]
          simp only [uF_2, uA_21, if_neg (show ¬ (10 : Nat) = 13 by decide), if_true, upd_j, nI_cl (show d < 2 ^ 31 by omega)]
          exact ⟨r10, hT.2.2.2.2.2.2.2.2.1⟩
        obtain ⟨r, k5, e5, hO⟩ := ih4 X D p1 (o + 1) (d + 1) fo _ _ hR (row0_10 (by omega)) (row0_11 (by omega)) (by omega) (by omega) (by omega)
        have hcl : ∀ q : Int32 × StT, f_X3_join n k5 5 r 0 (nI (skX X p)) = some q → g_X3_readNot n c0 c1 c2 c3 c4 sC = some (q.1, uF q.2 9 (q.2.1 9 - 1)) := by
          intro q eq
          unfold g_X3_readNot
          rw [ec, Option.bind_some]
          simp only []
          rw [if_pos k126]
          unfold f_X3_readNot_23 f_X8_start
          rw [Option.bind_some]
          simp only []
          rw [eo, Option.bind_some]
          simp only []
          rw [if_neg (by decide), if_pos k126, e5, Option.bind_some]
          simp only []
          rw [hT.2.2.2.2.2.1, eq, Option.bind_some]
          rfl
        have hCF : FRC sC (uF (uF k1 9 (nI (o + 1))) 2 0) := (fC.tr (FRC.op _ _)).tr (FRC.tk _ _)
        have hdown : ∀ res, Down n fo 4 (row0 (uA m3 11 (nI d) 1) (d + 1) 4) (d + 1) res → Down n (fo + 1) 4 sM d res := fun res hD => down_leaf hdn hn h10 (fun j hj => by
          rw [ebn, Option.bind_some]
          exact k92_next hn (by omega) (by omega) m30 hD j (by omega))
        rcases hO with ⟨f, D', p', m5, fo2, hr, hf, hR5, h17, hG, hpp, fC5, fM5, hfo5, hrun⟩ | ⟨D', m5, hX5, hG, fC5, fM5, hrun⟩
        · have r5 : m5.2.1 10 d = nI 4 ∧ m5.2.1 11 d = 1 ∧ m5.2.1 13 d = nI (skX X p) := by
            rw [fM5.2.2.1 10 d (by decide) (by decide) (by omega), fM5.2.2.1 11 d (by decide) (by decide) (by omega), fM5.2.2.1 13 d (by decide) (by decide) (by omega), row0_o (by omega) (by omega), row0_o (by omega) (by omega), row0_o (by omega) (by omega)]
            simp only [uA_21, if_neg (show ¬ (10 : Nat) = 11 by decide), if_neg (show ¬ (13 : Nat) = 11 by decide), if_true, upd_j, nI_cl (show d < 2 ^ 31 by omega)]
            exact ⟨r3.1, trivial, r3.2⟩
          have h2D : 0 < D'.1.1 := by have := hR5.1.1.2.2.1.1; omega
          rcases join3 hn hR5 (k := 5) (by decide) hf h2D (nI (skX X p)) with ⟨f', D2, k6, m6, ej, ek, hR6, hf6, hG6, fC6, fM6⟩ | ⟨D2, k6, m6, ej, ek, hX6, hG6, fC6, fM6⟩
          · refine ⟨_, _, hcl (nI f', k6) (by rw [hr]; exact ej), Or.inl ⟨f', D2, p', uF m6 17 (nI f'), fo2, rfl, hf6, hR6.rows (fun j hj => by simp only [uF_1]; rw [if_neg hj]) (fun _ _ => rfl), rfl, hG.tr hG6, by omega, ((hCF.tr fC5).tr fC6).tr (FRC.op _ _), ?_, by omega, fun res hU => hdown res (hrun res ?_)⟩⟩
            · exact ((((fM3.tr (row0_fr (by omega) (by omega))).tr (fM5.lo (by omega))).tr (FRM.op _ _ _)).tr (fM6.fr d)).tr (FRM.vl _ _ _)
            · refine up_step (by omega) hR5.1.2.2.2.2.2.2 (fun j hj => ?_)
              rw [goOn4 hdn r5.1, if_pos r5.2.1, h17, r5.2.2, show (5 : Int32) = nI 5 from rfl, show (0 : Int32) = nI 0 from rfl, ek, Option.bind_some, Option.bind_some]
              exact hU j hj
          · refine ⟨_, _, hcl (-1, k6) (by rw [hr]; exact ej), Or.inr ⟨D2, uF m6 17 (-1), ?_, hG.tr hG6, ((hCF.tr fC5).tr fC6).tr (FRC.op _ _), ?_, hdown _ (hrun _ ?_)⟩⟩
            · exact hX6.mv rfl rfl rfl rfl (fun _ _ _ => rfl) rfl rfl rfl rfl rfl (fun _ _ => rfl)
            · exact (((fM3.lo (Nat.zero_le _)).tr (row0_fr (by omega) (by omega))).tr (fM5.lo (by omega))).tr ((fM6 0).tr (FRM.vl _ _ _))
            · refine up_step (by omega) hR5.1.2.2.2.2.2.2 (fun j hj => ?_)
              rw [goOn4 hdn r5.1, if_pos r5.2.1, h17, r5.2.2, show (5 : Int32) = nI 5 from rfl, show (0 : Int32) = nI 0 from rfl, ek, Option.bind_some, Option.bind_some]
              exact k92_fault (s := uF m6 17 (-1)) hX6.m0 j (by omega)
        · refine ⟨_, _, hcl (-1, k5) (join_deadC hX5.c0 _ _ _ _), Or.inr ⟨D', m5, hX5.close _, hG, (hCF.tr fC5).tr (FRC.op _ _), ?_, hdown _ hrun⟩⟩
          exact ((fM3.lo (Nat.zero_le _)).tr (row0_fr (by omega) (by omega))).tr fM5
      · refine ⟨-1, _, ?_, Or.inr ⟨D, _, hX, Gd.rf _, fC.tr (FRC.fl _ _ _), ((fM 0).tr (FRM.ar _ 13 _ _ (by decide) rfl (Nat.zero_le d) (by omega))).tr (FRM.fl _ _ _ _), down_leaf hdn hn h10 (fun j hj => ?_)⟩⟩
        · show g_X3_readNot n c0 c1 c2 c3 c4 sC = _
          unfold g_X3_readNot
          rw [ec, Option.bind_some]
          simp only []
          rw [if_pos k126]
          unfold f_X3_readNot_23 f_X8_start
          rw [Option.bind_some]
          simp only []
          rw [eo, Option.bind_some]
          simp only []
          rw [if_true]
        · unfold f_X12_beginNot
          rw [em, Option.bind_some]
          simp only []
          rw [if_pos h0, if_pos kM, inB_nI hdn (by omega), if_pos rfl, en, Option.bind_some]
          simp only []
          rw [if_true, Option.bind_some]
          exact k92_fault hX.m0 j (by omega)
    · have kM126 : ¬ (tkX X (skX X p)).2.1 = 126 := fun e => k126 ((tkp_s _ hmem 126 (by decide)).mpr e)
      by_cases k40 : (tkX X (skX X p)).1 = 40
      · have kM : (tkX X (skX X p)).2.1 = 40 := (tkp_s _ hmem 40 (by decide)).mp k40
        rcases opens2 (n := n) (p := p) hB hT with ⟨ho, eo, en, hB2, hT2⟩ | ⟨eo, en, hX⟩
        · have tk := take2 hB2 hpn hT2
          have hp1 := tk.2.2 (by rw [k40]; decide)
          generalize hp1d : skX X p + (tkX X (skX X p)).2.2 = p1 at tk hp1
          have hp1n := tk.1.2.1
          generalize hm3 : (uF (uF (uF m1 13 (nI (o + 1))) 4 ((uF m1 13 (nI (o + 1))).1 6 + (uF m1 13 (nI (o + 1))).1 7)) 8 0) = m3 at tk
          have ebn : f_X12_beginNot n sM (nI d) = some (nI 0, uA m3 11 (nI d) 2) := by
            unfold f_X12_beginNot
            rw [em, Option.bind_some]
            simp only []
            rw [if_pos h0, if_neg kM126, if_pos kM, en, Option.bind_some]
            simp only []
            rw [if_neg (by decide)]
            unfold f_X12_pass
            rw [Option.bind_some, inB_nI hdn (by omega), if_pos rfl, hm3]
            rfl
          have m30 : (uA m3 11 (nI d) 2).1 10 = 0 := tk.1.1.2.2.2.2.2.2
          have hR : RS X D p1 (o + 1) (uF (uF k1 9 (nI (o + 1))) 2 0) (row0 (uA m3 11 (nI d) 2) (d + 1) 0) := (tk.1.rows (sM' := uA m3 11 (nI d) 2) (fun _ _ => rfl) (fun j hj => by simp only [uA_21]; rw [if_neg (by omega)])).rw0 _ _
          have fM3 : FRM d sM (uA m3 11 (nI d) 2) := by
            rw [← hm3]
            exact (((fM d).tr (FRM.op _ _ _)).tr (FRM.ps _ _ _ _)).tr (FRM.ar _ 11 _ _ (by decide) rfl (Nat.le_refl d) (by omega))
          have r3 : m3.2.1 10 d = nI 4 := by rw [← hm3]; exact r10
          obtain ⟨r, k5, e5, hO⟩ := ih0 X D p1 (o + 1) (d + 1) fo _ _ hR (row0_10 (by omega)) (row0_11 (by omega)) (by omega) (by omega) (by omega)
          have hcl : ∀ q : StT, f_X3_expect n k5 41 = some q → g_X3_readNot n c0 c1 c2 c3 c4 sC = some (r, uF q 9 (q.1 9 - 1)) := by
            intro q eq
            unfold g_X3_readNot
            rw [ec, Option.bind_some]
            simp only []
            rw [if_neg k126, if_pos k40]
            unfold f_X3_readNot_23 f_X8_start
            rw [Option.bind_some]
            simp only []
            rw [eo, Option.bind_some]
            simp only []
            rw [if_neg (by decide), if_neg k126, e5, Option.bind_some]
            simp only []
            rw [eq, Option.bind_some]
            rfl
          have hCF : FRC sC (uF (uF k1 9 (nI (o + 1))) 2 0) := (fC.tr (FRC.op _ _)).tr (FRC.tk _ _)
          have hdown : ∀ res, Down n fo 0 (row0 (uA m3 11 (nI d) 2) (d + 1) 0) (d + 1) res → Down n (fo + 1) 4 sM d res := fun res hD => down_leaf hdn hn h10 (fun j hj => by
            rw [ebn, Option.bind_some]
            exact k92_next hn (by omega) (by omega) m30 hD j (by omega))
          rcases hO with ⟨f, D', p', m5, fo2, hr, hf, hR5, h17, hG, hpp, fC5, fM5, hfo5, hrun⟩ | ⟨D', m5, hX5, hG, fC5, fM5, hrun⟩
          · have r5 : m5.2.1 10 d = nI 4 ∧ m5.2.1 11 d = 2 := by
              rw [fM5.2.2.1 10 d (by decide) (by decide) (by omega), fM5.2.2.1 11 d (by decide) (by decide) (by omega), row0_o (by omega) (by omega), row0_o (by omega) (by omega)]
              simp only [uA_21, if_neg (show ¬ (10 : Nat) = 11 by decide), if_true, upd_j, nI_cl (show d < 2 ^ 31 by omega)]
              exact ⟨r3, trivial⟩
            rcases want2 hn hR5 (x := 41) (y := 41) (by decide) (by decide) (fun pr hpr => tkp_s pr hpr 41 (by decide)) with ⟨p6, k6, m6, ej, ek, hR6, hp6, _, fC6, fM6, g17, g2⟩ | ⟨k6, m6, ej, ek, hX6, fC6, fM6⟩
            · refine ⟨_, _, hcl k6 ej, Or.inl ⟨f, D', p6, uF m6 13 (m6.1 13 - 1), fo2, hr, hf, hR6.close, ?_, hG, by omega, ((hCF.tr fC5).tr fC6).tr (FRC.op _ _), ?_, by omega, fun res hU => hdown res (hrun res ?_)⟩⟩
              · show m6.1 17 = _; rw [g17]; exact h17
              · exact (((fM3.tr (row0_fr (by omega) (by omega))).tr (fM5.lo (by omega))).tr (fM6 d)).tr (FRM.op _ _ _)
              · refine up_step (by omega) hR5.1.2.2.2.2.2.2 (fun j hj => ?_)
                rw [goOn4 hdn r5.1, if_neg (by rw [r5.2]; decide), ek, Option.bind_some, Option.bind_some]
                exact hU j hj
            · refine ⟨_, _, hcl k6 ej, Or.inr ⟨D', uF m6 13 (m6.1 13 - 1), ?_, hG, ((hCF.tr fC5).tr fC6).tr (FRC.op _ _), ?_, hdown _ (hrun _ ?_)⟩⟩
              · exact hX6.mv rfl rfl rfl rfl (fun _ _ _ => rfl) rfl rfl rfl rfl rfl (fun _ _ => rfl)
              · exact (((fM3.lo (Nat.zero_le _)).tr (row0_fr (by omega) (by omega))).tr (fM5.lo (by omega))).tr ((fM6 0).tr (FRM.op _ _ _))
              · refine up_step (by omega) hR5.1.2.2.2.2.2.2 (fun j hj => ?_)
                rw [goOn4 hdn r5.1, if_neg (by rw [r5.2]; decide), ek, Option.bind_some, Option.bind_some]
                exact k92_fault (s := uF m6 13 (m6.1 13 - 1)) hX6.m0 j (by omega)
          · refine ⟨_, _, hcl k5 (expect_deadC hX5.c0 (by decide)), Or.inr ⟨D', m5, hX5.close _, hG, (hCF.tr fC5).tr (FRC.op _ _), ?_, hdown _ hrun⟩⟩
            exact ((fM3.lo (Nat.zero_le _)).tr (row0_fr (by omega) (by omega))).tr fM5
        · refine ⟨-1, _, ?_, Or.inr ⟨D, _, hX, Gd.rf _, fC.tr (FRC.fl _ _ _), (fM 0).tr (FRM.fl _ _ _ _), down_leaf hdn hn h10 (fun j hj => ?_)⟩⟩
          · show g_X3_readNot n c0 c1 c2 c3 c4 sC = _
            unfold g_X3_readNot
            rw [ec, Option.bind_some]
            simp only []
            rw [if_neg k126, if_pos k40]
            unfold f_X3_readNot_23 f_X8_start
            rw [Option.bind_some]
            simp only []
            rw [eo, Option.bind_some]
            simp only []
            rw [if_true]
          · unfold f_X12_beginNot
            rw [em, Option.bind_some]
            simp only []
            rw [if_pos h0, if_neg kM126, if_pos kM, en, Option.bind_some]
            simp only []
            rw [if_true, Option.bind_some]
            exact k92_fault hX.m0 j (by omega)
      · have kM40 : ¬ (tkX X (skX X p)).2.1 = 40 := fun e => k40 ((tkp_s _ hmem 40 (by decide)).mpr e)
        have hcl : ∀ q : Int32 × StT, f_X3_readLeaf n k1 (tkX X (skX X p)).1 = some q → g_X3_readNot n c0 c1 c2 c3 c4 sC = some q := by
          intro q eq
          unfold g_X3_readNot
          rw [ec, Option.bind_some]
          simp only []
          rw [if_neg k126, if_neg k40, eq, Option.bind_some]
        by_cases k110 : (tkX X (skX X p)).1 = 110
        · have kM : (tkX X (skX X p)).2.1 = 257 := (tkp_n _ hmem).mp k110
          have hleaf : ∀ q : Int32 × StT, f_X3_readVariable n k1 = some q → f_X3_readLeaf n k1 (tkX X (skX X p)).1 = some q := by
            intro q eq
            unfold f_X3_readLeaf
            rw [k110, if_neg (by decide), if_pos rfl, eq, Option.bind_some]
          have hbn : ∀ q : Int32 × StT, f_X12_variableOf n m1 = some q → f_X12_beginNot n sM (nI d) = some (-1, uF (uF (uF q.2 17 q.1) 4 ((uF q.2 17 q.1).1 6 + (uF q.2 17 q.1).1 7)) 8 0) := by
            intro q eq
            unfold f_X12_beginNot f_X12_pass
            rw [em, Option.bind_some]
            simp only []
            rw [if_pos h0, if_neg kM126, if_neg kM40, if_pos kM, eq, Option.bind_some, Option.bind_some]
          rcases var2 hn hB hpn hT k110 with ⟨f, D', k2, m2, ev, ew, hB2, hT2, hf, hG, fC2, fM2⟩ | ⟨k2, m2, ev, ew, hX, fC2, fM2⟩
          · have hB3 : RB X D' o k2 (uF m2 17 (nI f)) := hB2.mv (fun _ _ _ _ _ => rfl) rfl rfl (fun j _ _ _ _ _ a => by simp only [uF_1]; rw [if_neg a]) (fun _ _ => rfl)
            have tk := take2 hB3 hpn hT2
            have hp1 := tk.2.2 (by rw [k110]; decide)
            refine ⟨_, _, hcl _ (hleaf _ ev), Or.inl ⟨f, D', _, _, fo + 1, rfl, hf, tk.1, rfl, hG, hp1, (fC.tr fC2).tr (FRC.tk _ _), (((fM d).tr (fM2 d)).tr (FRM.vl _ _ _)).tr (FRM.ps _ _ _ _), by omega, fun res hU => down_leaf hdn hn h10 (fun j hj => ?_)⟩⟩
            rw [hbn _ ew, Option.bind_some]
            exact hU j hj
          · refine ⟨_, _, hcl _ (hleaf _ ev), Or.inr ⟨D, uF (uF (uF m2 17 (-1)) 4 ((uF m2 17 (-1)).1 6 + (uF m2 17 (-1)).1 7)) 8 0, ?_, Gd.rf _, fC.tr fC2, (((fM 0).tr (fM2 0)).tr (FRM.vl _ _ _)).tr (FRM.ps _ _ _ _), down_leaf hdn hn h10 (fun j hj => ?_)⟩⟩
            · exact hX.mv rfl rfl rfl rfl (fun _ _ _ => rfl) rfl rfl rfl rfl rfl (fun _ _ => rfl)
            · rw [hbn _ ew, Option.bind_some]
              exact k92_fault (s := uF (uF (uF m2 17 (-1)) 4 ((uF m2 17 (-1)).1 6 + (uF m2 17 (-1)).1 7)) 8 0) hX.m0 j (by omega)
        · have kM257 : ¬ (tkX X (skX X p)).2.1 = 257 := fun e => k110 ((tkp_n _ hmem).mpr e)
          have hw2 := hB.1.2.2.1.1
          have hconst : ∀ (v : Nat), v < 2 → (tkX X (skX X p)).1 ≠ 0 → f_X3_readLeaf n k1 (tkX X (skX X p)).1 = some (nI v, uF k1 2 0) → f_X12_beginNot n sM (nI d) = some (-1, uF (uF (uF m1 17 (nI v)) 4 ((uF m1 17 (nI v)).1 6 + (uF m1 17 (nI v)).1 7)) 8 0) → ∃ r sC', g_X3_readNot n c0 c1 c2 c3 c4 sC = some (r, sC') ∧ OkF n X D (p + 1) p o d (fo + 1) sC sM (Down n (fo + 1) 4 sM d) r sC' := by
            intro v hv hk0 ev ew
            have hB3 : RB X D o k1 (uF m1 17 (nI v)) := hB.mv (fun _ _ _ _ _ => rfl) rfl rfl (fun j _ _ _ _ _ a => by simp only [uF_1]; rw [if_neg a]) (fun _ _ => rfl)
            have tk := take2 hB3 hpn hT
            have hp1 := tk.2.2 hk0
            refine ⟨_, _, hcl _ ev, Or.inl ⟨v, D, _, _, fo + 1, rfl, by omega, tk.1, rfl, Gd.rf _, hp1, fC.tr (FRC.tk _ _), ((fM d).tr (FRM.vl _ _ _)).tr (FRM.ps _ _ _ _), by omega, fun res hU => down_leaf hdn hn h10 (fun j hj => ?_)⟩⟩
            rw [ew, Option.bind_some]
            exact hU j hj
          by_cases k116 : (tkX X (skX X p)).1 = 116
          · have kM : (tkX X (skX X p)).2.1 = 258 := (tkp_t _ hmem).mp k116
            refine hconst 1 (by decide) (by rw [k116]; decide) ?_ ?_
            · unfold f_X3_readLeaf f_X8_take
              rw [k116, if_neg (by decide), if_neg (by decide), if_pos rfl, Option.bind_some]
              rfl
            · unfold f_X12_beginNot f_X12_beginNot_112 f_X12_pass
              rw [em, Option.bind_some]
              simp only []
              rw [if_pos h0, if_neg kM126, if_neg kM40, if_neg kM257, if_pos kM, if_pos kM, Option.bind_some]
              rfl
          · have kM258 : ¬ (tkX X (skX X p)).2.1 = 258 := fun e => k116 ((tkp_t _ hmem).mpr e)
            by_cases k102 : (tkX X (skX X p)).1 = 102
            · have kM : (tkX X (skX X p)).2.1 = 259 := (tkp_f _ hmem).mp k102
              refine hconst 0 (by decide) (by rw [k102]; decide) ?_ ?_
              · unfold f_X3_readLeaf f_X8_take
                rw [k102, if_pos rfl, Option.bind_some]
                rfl
              · unfold f_X12_beginNot f_X12_beginNot_112 f_X12_pass
                rw [em, Option.bind_some]
                simp only []
                rw [if_pos h0, if_neg kM126, if_neg kM40, if_neg kM257, if_neg kM258, if_pos kM, if_neg kM258, Option.bind_some]
                rfl
            · have kM259 : ¬ (tkX X (skX X p)).2.1 = 259 := fun e => k102 ((tkp_f _ hmem).mpr e)
              have hX : RX D (uF (uF k1 10 2) 11 (nI (skX X p))) (uF (uF m1 10 2) 11 (nI (skX X p))) := HS.fault hB.1 (c := 2) (by decide) (by decide) rfl
              refine ⟨-1, _, hcl (-1, uF (uF k1 10 2) 11 (nI (skX X p))) ?_, Or.inr ⟨D, _, hX, Gd.rf _, fC.tr (FRC.fl _ _ _), (fM 0).tr (FRM.fl _ _ _ _), down_leaf hdn hn h10 (fun j hj => ?_)⟩⟩
              · unfold f_X3_readLeaf f_X8_start f_X3_fail
                rw [if_neg k102, if_neg k110, if_neg k116, Option.bind_some]
                simp only []
                rw [if_pos hc0, Option.bind_some, hT.2.2.2.2.2.1]
              · unfold f_X12_beginNot f_X12_fail
                rw [em, Option.bind_some]
                simp only []
                rw [if_pos h0, if_neg kM126, if_neg kM40, if_neg kM257, if_neg kM258, if_neg kM259, if_pos h0, Option.bind_some, Option.bind_some, hT.2.2.2.2.2.2.2.2.1]
                exact k92_fault hX.m0 j (by omega)
  · refine ⟨-1, k1, ?_, Or.inr ⟨D, m1, hX, Gd.rf _, fC, fM 0, down_leaf hdn hn h10 (fun j hj => ?_)⟩⟩
    · show g_X3_readNot n c0 c1 c2 c3 c4 sC = _
      unfold g_X3_readNot
      rw [ec, Option.bind_some]
      simp only []
      rw [if_neg (by decide), if_neg (by decide)]
      unfold f_X3_readLeaf f_X8_start
      rw [if_neg (by decide), if_neg (by decide), if_neg (by decide), Option.bind_some]
      simp only []
      rw [fail_deadC hX.c0, Option.bind_some, Option.bind_some]
    · unfold f_X12_beginNot
      rw [em, Option.bind_some]
      simp only []
      rw [if_neg hX.m0, Option.bind_some]
      exact k92_fault hX.m0 j (by omega)
