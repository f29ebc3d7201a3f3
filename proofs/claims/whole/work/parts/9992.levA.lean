/-! ===== the two arrows ===== -/
def GoRun (n fo : Nat) (sM : StT) (d : Nat) (res : Int32 × StT) : Prop := ∀ j, d < j → ((f_X12_goOn n sM (nI d)).bind fun q => f_X12_readFormula_92 n (f_X12_readFormula_34 n fo) j q.2 (nI d) q.1) = some res
theorem lvArr {n : Nat} (hn : 100000 ≤ n) {lv : Nat} {cC cM : Int32} {sub imp : StT → Option (Int32 × StT)} {fin : StT → Int32 → Int32 → Int32 → Option (Int32 × StT)} {dr : Nat} (hlv : lv ≤ 1) (hc1 : cC ≠ -1) (hc0 : cC ≠ 0) (hcM : cM ≠ 262) (hcc : ∀ pr, pr ∈ TKP → (pr.1 = cC ↔ pr.2 = cM))
    (hgo : ∀ (s : StT) (d : Nat), d < 400 → s.2.1 10 d = nI lv → ¬ s.2.1 11 d = 1 → f_X12_goOn n s (nI d) = f_X12_arrow n s (nI d) (s.1 17) cM)
    (hfd : ∀ s a b q, ¬ s.1 10 = 0 → fin s a b q = some (-1, s))
    (hfin : ∀ (X : TX) (D : HD) (p o d fo : Nat) (sC sM : StT) (a b q : Nat), RS X D p (o + 1) sC sM → d < 400 → sM.2.1 10 d = nI lv → sM.2.1 11 d = 1 → sM.2.1 12 d = nI a → sM.2.1 13 d = nI q → sM.1 17 = nI b → a < D.1.1 → b < D.1.1 → ∃ r sC', fin (uF sC 9 (sC.1 9 - 1)) (nI a) (nI b) (nI q) = some (r, sC') ∧ OkF n X D p p o d fo sC sM (GoRun n fo sM d) r sC')
    (ihs : LvF n (lv + 1) sub dr) (ih1 : LvF n 1 imp dr) : LvF n lv (fun st => (sub st).bind fun q1 => ((f_X3_look n q1.2).bind fun q6 => (if q6.1 = cC then ((f_X8_start n q6.2).bind fun q20 => ((f_X3_opens n q20.2).bind fun q25 => (if q25.1 = 0 then (some ((-1 : Int32), q25.2)) else ((imp q25.2).bind fun q34 => fin (uF q34.2 9 ((q34.2.1 9) - (1 : Int32))) q1.1 q34.1 q20.1)))) else (some (q1.1, q6.2))))) (dr + 1) := by
  intro X D p o d fo sC sM h h10 h11 hdr hd hfo
  have hdn : d < 400 := by omega
  obtain ⟨r, k5, e5, hO⟩ := ihs X D p o (d + 1) fo sC (row0 sM (d + 1) (lv + 1)) (h.rw0 _ _) (row0_10 (by omega)) (row0_11 (by omega)) (by omega) (by omega) hfo
  have hpush : ∀ res, Down n fo (lv + 1) (row0 sM (d + 1) (lv + 1)) (d + 1) res → Down n fo lv sM d res := fun res hD => down_push (by omega) (by omega) h10 hD
  simp only [e5, Option.bind_some]
  rcases hO with ⟨a, D', p', m5, fo2, hr, ha, hR5, h17, hG, hpp, fC5, fM5, hfo5, hrun⟩ | ⟨D', m5, hX5, hG, fC5, fM5, hrun⟩
  · have r5 : m5.2.1 10 d = nI lv ∧ m5.2.1 11 d = 0 := by
      rw [fM5.2.2.1 10 d (by decide) (by decide) (by omega), fM5.2.2.1 11 d (by decide) (by decide) (by omega), row0_o (by omega) (by omega), row0_o (by omega) (by omega)]
      exact ⟨h10, h11⟩
    have hpn := hR5.2.1
    have fMd : FRM d sM m5 := (row0_fr (by omega) (by omega)).tr (fM5.lo (by omega))
    have h05 := hR5.1.2.2.2.2.2.2
    obtain ⟨fo2, rfl⟩ : ∃ q, fo2 = q + 1 := ⟨fo2 - 1, by omega⟩
    have hbt : ∀ i, i < X.2.1 → X.2.2 i < 256 := fun i hi => (h.1.2.1.1.2.2 i hi).2
    have hmem := hcc _ (tk_mem (tm := X.1) hbt (skX X p'))
    have hup : ∀ res, (∀ j, d < j → ((f_X12_arrow n m5 (nI d) (nI a) cM).bind fun q => f_X12_readFormula_92 n (f_X12_readFormula_34 n (fo2 + 1)) j q.2 (nI d) q.1) = some res) → Down n fo lv sM d res := fun res hA => hpush res (hrun res (up_step (by omega) h05 (fun j hj => by
      rw [hgo m5 d hdn r5.1 (by rw [r5.2]; decide), h17]
      exact hA j hj)))
    have hv : RS X D' p' o k5 (uF m5 17 (nI a)) := hR5.rows (fun j hj => by simp only [uF_1]; rw [if_neg hj]) (fun _ _ => rfl)
    rcases look2 hn hv with ⟨k1, m1, ec, em, hB, hT, fC, fM, e17, e2⟩ | ⟨k1, m1, ec, em, hX, fC, fM, e17, e2⟩
    · rw [ec, Option.bind_some]
      simp only []
      by_cases c : (tkX X (skX X p')).1 = cC
      · have cM' := hmem.mp c
        rw [if_pos c]
        unfold f_X8_start
        rw [Option.bind_some]
        simp only []
        rcases opens2 (n := n) (p := p') hB hT with ⟨ho, eo, en, hB2, hT2⟩ | ⟨eo, en, hX⟩
        · rw [eo, Option.bind_some]
          simp only []
          rw [if_neg (by decide)]
          generalize hmr : uA (uA (uA (uF m1 13 (nI (o + 1))) 12 (nI d) (nI a)) 13 (nI d) (m1.1 6)) 11 (nI d) 1 = mr
          have hmr1 : mr.1 = (uF m1 13 (nI (o + 1))).1 := by rw [← hmr]; rfl
          have hBr : RB X D' (o + 1) (uF k1 9 (nI (o + 1))) mr := by
            rw [← hmr]
            exact hB2.mv (fun _ _ _ _ _ => rfl) rfl rfl (fun _ _ _ _ _ _ _ => rfl) (fun j hj => by simp only [uA_21]; rw [if_neg (by omega), if_neg (by omega), if_neg (by omega)])
          have hTr : Tk1 X.2.1 X.2.2 (skX X p') (tkX X (skX X p')) (uF k1 9 (nI (o + 1))) mr := by unfold Tk1; rw [hmr1]; exact hT2
          have tk := take2 hBr hpn hTr
          have hp1 := tk.2.2 (by rw [c]; exact hc0)
          generalize hp1d : skX X p' + (tkX X (skX X p')).2.2 = p1 at tk hp1
          have hp1n := tk.1.2.1
          generalize hm3 : (uF (uF mr 4 (mr.1 6 + mr.1 7)) 8 0) = m3 at tk
          have hm32 : m3.2 = mr.2 := by rw [← hm3]; rfl
          have r10 : m1.2.1 10 d = nI lv := by rw [e2]; exact r5.1
          have rr : mr.2.1 10 d = nI lv ∧ mr.2.1 11 d = 1 ∧ mr.2.1 12 d = nI a ∧ mr.2.1 13 d = nI (skX X p') := by
            rw [← hmr]
            simp only [uA_21, uA_1, uF_2, if_true, if_neg (show ¬ (10 : Nat) = 11 by decide), if_neg (show ¬ (10 : Nat) = 12 by decide), if_neg (show ¬ (10 : Nat) = 13 by decide), if_neg (show ¬ (12 : Nat) = 11 by decide), if_neg (show ¬ (12 : Nat) = 13 by decide), if_neg (show ¬ (13 : Nat) = 11 by decide), upd_j, nI_cl (show d < 2 ^ 31 by omega)]
            exact ⟨r10, trivial, trivial, hT.2.2.2.2.2.2.2.2.1⟩
          have eser : f_X12_arrow n m5 (nI d) (nI a) cM = some (nI 1, m3) := by
            unfold f_X12_arrow f_X12_pass
            rw [em, Option.bind_some]
            simp only []
            rw [if_pos cM', en, Option.bind_some]
            simp only []
            rw [if_neg (by decide), inB_nI hdn (by omega), if_pos rfl, if_pos rfl, if_pos rfl, Option.bind_some, show (uA (uF m1 13 (nI (o + 1))) 12 (nI d) (nI a)).1 6 = m1.1 6 from rfl, hmr, hm3]
            rfl
          have hR := tk.1.rw0 (d + 1) 1
          have m30 : m3.1 10 = 0 := tk.1.1.2.2.2.2.2.2
          obtain ⟨r6, k6, e6, hO6⟩ := ih1 X D' p1 (o + 1) (d + 1) fo2 _ _ hR (row0_10 (by omega)) (row0_11 (by omega)) (by omega) (by omega) (by omega)
          have fM3 : FRM d sM m3 := by
            rw [← hm3, ← hmr]
            exact (((((((fMd.tr (FRM.vl d _ _)).tr (fM d)).tr (FRM.op d _ _)).tr (FRM.ar _ 12 _ _ (by decide) rfl (Nat.le_refl d) (by omega))).tr (FRM.ar _ 13 _ _ (by decide) rfl (Nat.le_refl d) (by omega))).tr (FRM.ar _ 11 _ _ (by decide) rfl (Nat.le_refl d) (by omega)))).tr (FRM.ps _ _ _ _)
          have hCF : FRC sC (uF (uF k1 9 (nI (o + 1))) 2 0) := ((fC5.tr fC).tr (FRC.op _ _)).tr (FRC.tk _ _)
          have hdown : ∀ res, Down n fo2 1 (row0 m3 (d + 1) 1) (d + 1) res → Down n fo lv sM d res := fun res hD => hup res (fun j hj => by
            rw [eser, Option.bind_some]
            exact k92_next hn (by omega) (by omega) m30 hD j (by omega))
          rw [e6, Option.bind_some]
          simp only []
          rw [hT.2.2.2.2.2.1, hr]
          rcases hO6 with ⟨b, D2, p2, m6, fo3, hr6, hb, hR6, h176, hG6, hpp6, fC6, fM6, hfo6, hrun6⟩ | ⟨D2, m6, hX6, hG6, fC6, fM6, hrun6⟩
          · have r6' : m6.2.1 10 d = nI lv ∧ m6.2.1 11 d = 1 ∧ m6.2.1 12 d = nI a ∧ m6.2.1 13 d = nI (skX X p') := by
              rw [fM6.2.2.1 10 d (by decide) (by decide) (by omega), fM6.2.2.1 11 d (by decide) (by decide) (by omega), fM6.2.2.1 12 d (by decide) (by decide) (by omega), fM6.2.2.1 13 d (by decide) (by decide) (by omega), row0_o (by omega) (by omega), row0_o (by omega) (by omega), row0_o (by omega) (by omega), row0_o (by omega) (by omega), hm32]
              exact rr
            obtain ⟨r7, k7, e7, hO7⟩ := hfin X D2 p2 o d fo3 k6 m6 a b (skX X p') hR6 hdn r6'.1 r6'.2.1 r6'.2.2.1 r6'.2.2.2 h176 (Nat.lt_of_lt_of_le ha hG6.1) hb
            refine ⟨r7, k7, by rw [hr6]; exact e7, hO7.tr (hG.tr hG6) (hCF.tr fC6) ((fM3.tr (row0_fr (by omega) (by omega))).tr (fM6.lo (by omega))) (by omega) (by omega) (fun res hS => hdown res (hrun6 res ?_))⟩
            exact up_step (by omega) hR6.1.2.2.2.2.2.2 (fun j hj => hS j hj)
          · refine ⟨-1, _, hfd _ _ _ _ (show ¬ (uF k6 9 (k6.1 9 - 1)).1 10 = 0 from hX6.c0), Or.inr ⟨D2, m6, hX6.close _, hG.tr hG6, (hCF.tr fC6).tr (FRC.op _ _), ((fM3.lo (Nat.zero_le _)).tr (row0_fr (by omega) (by omega))).tr fM6, hdown _ hrun6⟩⟩
        · rw [eo, Option.bind_some]
          simp only []
          rw [if_true]
          refine ⟨-1, _, rfl, Or.inr ⟨D', _, hX, hG, (fC5.tr fC).tr (FRC.fl _ _ _), (((fMd.lo (Nat.zero_le _)).tr (FRM.vl 0 _ _)).tr (fM 0)).tr (FRM.fl _ _ _ _), hup _ (fun j hj => ?_)⟩⟩
          unfold f_X12_arrow
          rw [em, Option.bind_some]
          simp only []
          rw [if_pos cM', en, Option.bind_some]
          simp only []
          rw [if_true, Option.bind_some]
          exact k92_fault hX.m0 j (by omega)
      · rw [if_neg c]
        refine ⟨r, k1, rfl, Or.inl ⟨a, D', p', m1, fo2 + 1, hr, ha, ⟨hB, hpn, Or.inr hT⟩, e17, hG, hpp, fC5.tr fC, (fMd.tr (FRM.vl d _ _)).tr (fM d), hfo5, fun res hU => hup res (fun j hj => ?_)⟩⟩
        unfold f_X12_arrow
        rw [em, Option.bind_some]
        simp only []
        rw [if_neg (fun e => c (hmem.mpr e)), Option.bind_some]
        exact hU j hj
    · rw [ec, Option.bind_some]
      simp only []
      rw [if_neg (fun e => hc1 e.symm)]
      refine ⟨r, k1, rfl, Or.inr ⟨D', m1, hX, hG, fC5.tr fC, ((fMd.lo (Nat.zero_le _)).tr (FRM.vl 0 _ _)).tr (fM 0), hup _ (fun j hj => ?_)⟩⟩
      unfold f_X12_arrow
      rw [em, Option.bind_some]
      simp only []
      rw [if_neg (fun e => hcM e.symm), Option.bind_some]
      exact k92_fault hX.m0 j (by omega)
  · refine ⟨r, k5, ?_, Or.inr ⟨D', m5, hX5, hG, fC5, (row0_fr (by omega) (by omega)).tr fM5, hpush _ hrun⟩⟩
    rw [look_deadC hX5.c0, Option.bind_some]
    simp only []
    rw [if_neg (fun e => hc1 e.symm)]
theorem fin1 {n : Nat} (hn : 100000 ≤ n) (X : TX) (D : HD) (p o d fo : Nat) (sC sM : StT) (a b q : Nat) (h : RS X D p (o + 1) sC sM) (hd : d < 400) (h10 : sM.2.1 10 d = nI 1) (h11 : sM.2.1 11 d = 1) (h12 : sM.2.1 12 d = nI a) (h13 : sM.2.1 13 d = nI q) (h17 : sM.1 17 = nI b) (ha : a < D.1.1) (hb : b < D.1.1) : ∃ r sC', ((f_X3_join n (uF sC 9 (sC.1 9 - 1)) 5 (nI a) (nI b) (nI q)).bind fun q53 => some (q53.1, q53.2)) = some (r, sC') ∧ OkF n X D p p o d fo sC sM (GoRun n fo sM d) r sC' := by
  rw [bind_eta]
  rcases join2 hn h.close (k := 5) (by decide) ha hb (nI q) with ⟨f', D2, k6, m6, ej, ek, hR6, hf6, hG6, fC6, fM6⟩ | ⟨D2, k6, m6, ej, ek, hX6, hG6, fC6, fM6⟩
  · refine ⟨_, _, ej, Or.inl ⟨f', D2, p, uF m6 17 (nI f'), fo, rfl, hf6, hR6.rows (fun j hj => by simp only [uF_1]; rw [if_neg hj]) (fun _ _ => rfl), rfl, hG6, Nat.le_refl _, (FRC.op _ _).tr fC6, ((FRM.op d _ _).tr (fM6.fr d)).tr (FRM.vl d _ _), Nat.le_refl _, fun res hU j hj => ?_⟩⟩
    rw [goOn1 hd h10, if_pos h11, h12, h17, h13, show (5 : Int32) = nI 5 from rfl, ek, Option.bind_some, Option.bind_some]
    exact hU j hj
  · refine ⟨_, _, ej, Or.inr ⟨D2, uF m6 17 (-1), hX6.mv rfl rfl rfl rfl (fun _ _ _ => rfl) rfl rfl rfl rfl rfl (fun _ _ => rfl), hG6, (FRC.op _ _).tr fC6, ((FRM.op 0 _ _).tr (fM6 0)).tr (FRM.vl 0 _ _), fun j hj => ?_⟩⟩
    rw [goOn1 hd h10, if_pos h11, h12, h17, h13, show (5 : Int32) = nI 5 from rfl, ek, Option.bind_some, Option.bind_some]
    exact k92_fault (s := uF m6 17 (-1)) hX6.m0 j (by omega)
theorem fin0 {n : Nat} (hn : 100000 ≤ n) (X : TX) (D : HD) (p o d fo : Nat) (sC sM : StT) (a b q : Nat) (h : RS X D p (o + 1) sC sM) (hd : d < 400) (h10 : sM.2.1 10 d = nI 0) (h11 : sM.2.1 11 d = 1) (h12 : sM.2.1 12 d = nI a) (h13 : sM.2.1 13 d = nI q) (h17 : sM.1 17 = nI b) (ha : a < D.1.1) (hb : b < D.1.1) : ∃ r sC', ((f_X3_join n (uF sC 9 (sC.1 9 - 1)) 5 (nI a) (nI b) (nI q)).bind fun q53 => ((f_X3_join n q53.2 (5 : Int32) (nI b) (nI a) (nI q)).bind fun q63 => ((f_X3_join n q63.2 (3 : Int32) q53.1 q63.1 (nI q)).bind fun q75 => (some (q75.1, q75.2))))) = some (r, sC') ∧ OkF n X D p p o d fo sC sM (GoRun n fo sM d) r sC' := by
  rcases join2 hn h.close (k := 5) (by decide) ha hb (nI q) with ⟨f1, D1, k1, m1, ej1, ek1, hR1, hf1, hG1, fC1, fM1⟩ | ⟨D1, k1, m1, ej1, ek1, hX1, hG1, fC1, fM1⟩
  · have g1 : m1.2.1 12 d = nI a ∧ m1.2.1 13 d = nI q := by
      rw [fM1.2.1 12 (by decide) (by decide) (by decide), fM1.2.1 13 (by decide) (by decide) (by decide)]; exact ⟨h12, h13⟩
    rw [show (5 : Int32) = nI 5 from rfl, show (3 : Int32) = nI 3 from rfl, ej1, Option.bind_some]
    simp only []
    rcases join2 hn hR1 (k := 5) (by decide) (Nat.lt_of_lt_of_le hb hG1.1) (Nat.lt_of_lt_of_le ha hG1.1) (nI q) with ⟨f2, D2, k2, m2, ej2, ek2, hR2, hf2, hG2, fC2, fM2⟩ | ⟨D2, k2, m2, ej2, ek2, hX2, hG2, fC2, fM2⟩
    · have g2 : m2.2.1 13 d = nI q := by
        rw [fM2.2.1 13 (by decide) (by decide) (by decide)]; exact g1.2
      rw [ej2, Option.bind_some]
      simp only []
      rw [bind_eta]
      rcases join2 hn hR2 (k := 3) (by decide) (Nat.lt_of_lt_of_le hf1 hG2.1) hf2 (nI q) with ⟨f3, D3, k3, m3, ej3, ek3, hR3, hf3, hG3, fC3, fM3⟩ | ⟨D3, k3, m3, ej3, ek3, hX3, hG3, fC3, fM3⟩
      · refine ⟨_, _, ej3, Or.inl ⟨f3, D3, p, uF m3 17 (nI f3), fo, rfl, hf3, hR3.rows (fun j hj => by simp only [uF_1]; rw [if_neg hj]) (fun _ _ => rfl), rfl, (hG1.tr hG2).tr hG3, Nat.le_refl _, (((FRC.op _ _).tr fC1).tr fC2).tr fC3, ((((FRM.op d _ _).tr (fM1.fr d)).tr (fM2.fr d)).tr (fM3.fr d)).tr (FRM.vl d _ _), Nat.le_refl _, fun res hU j hj => ?_⟩⟩
        rw [goOn0 hd h10, if_pos h11, h12, h17, h13, show (5 : Int32) = nI 5 from rfl, ek1, Option.bind_some]
        simp only []
        rw [if_pos hR1.1.2.2.2.2.2.2, g1.1, g1.2, ek2, Option.bind_some]
        simp only []
        unfold f_X12_goOn_297
        rw [if_pos hR2.1.2.2.2.2.2.2, inB_nI hd (by omega), if_pos rfl, nI_cl (by omega), g2, show (3 : Int32) = nI 3 from rfl, ek3, Option.bind_some, Option.bind_some]
        exact hU j hj
      · refine ⟨_, _, ej3, Or.inr ⟨D3, uF m3 17 (-1), hX3.mv rfl rfl rfl rfl (fun _ _ _ => rfl) rfl rfl rfl rfl rfl (fun _ _ => rfl), (hG1.tr hG2).tr hG3, (((FRC.op _ _).tr fC1).tr fC2).tr fC3, ((((FRM.op 0 _ _).tr (fM1.fr 0)).tr (fM2.fr 0)).tr (fM3 0)).tr (FRM.vl 0 _ _), fun j hj => ?_⟩⟩
        rw [goOn0 hd h10, if_pos h11, h12, h17, h13, show (5 : Int32) = nI 5 from rfl, ek1, Option.bind_some]
        simp only []
        rw [if_pos hR1.1.2.2.2.2.2.2, g1.1, g1.2, ek2, Option.bind_some]
        simp only []
        unfold f_X12_goOn_297
        rw [if_pos hR2.1.2.2.2.2.2.2, inB_nI hd (by omega), if_pos rfl, nI_cl (by omega), g2, show (3 : Int32) = nI 3 from rfl, ek3, Option.bind_some, Option.bind_some]
        exact k92_fault (s := uF m3 17 (-1)) hX3.m0 j (by omega)
    · rw [ej2, Option.bind_some]
      simp only []
      rw [join_deadC hX2.c0, Option.bind_some]
      refine ⟨_, _, rfl, Or.inr ⟨D2, uF m2 17 (-1), hX2.mv rfl rfl rfl rfl (fun _ _ _ => rfl) rfl rfl rfl rfl rfl (fun _ _ => rfl), hG1.tr hG2, ((FRC.op _ _).tr fC1).tr fC2, (((FRM.op 0 _ _).tr (fM1.fr 0)).tr (fM2 0)).tr (FRM.vl 0 _ _), fun j hj => ?_⟩⟩
      rw [goOn0 hd h10, if_pos h11, h12, h17, h13, show (5 : Int32) = nI 5 from rfl, ek1, Option.bind_some]
      simp only []
      rw [if_pos hR1.1.2.2.2.2.2.2, g1.1, g1.2, ek2, Option.bind_some]
      simp only []
      unfold f_X12_goOn_297
      rw [if_neg hX2.m0, Option.bind_some]
      exact k92_fault (s := uF m2 17 (-1)) hX2.m0 j (by omega)
  · rw [show (5 : Int32) = nI 5 from rfl, ej1, Option.bind_some]
    simp only []
    rw [join_deadC hX1.c0, Option.bind_some]
    simp only []
    rw [join_deadC hX1.c0, Option.bind_some]
    refine ⟨_, _, rfl, Or.inr ⟨D1, uF m1 17 (-1), hX1.mv rfl rfl rfl rfl (fun _ _ _ => rfl) rfl rfl rfl rfl rfl (fun _ _ => rfl), hG1, (FRC.op _ _).tr fC1, ((FRM.op 0 _ _).tr (fM1 0)).tr (FRM.vl 0 _ _), fun j hj => ?_⟩⟩
    rw [goOn0 hd h10, if_pos h11, h12, h17, h13, show (5 : Int32) = nI 5 from rfl, ek1, Option.bind_some]
    simp only []
    rw [if_neg hX1.m0]
    unfold f_X12_goOn_297
    rw [if_neg hX1.m0, Option.bind_some]
    exact k92_fault (s := uF m1 17 (-1)) hX1.m0 j (by omega)
/-- every level, by the depth of the calls -/
theorem lvAll {n : Nat} (hn : 100000 ≤ n) : ∀ dr, LvF n 0 (rec_RF n dr).1 dr ∧ LvF n 1 (rec_RF n dr).2.1 dr ∧ LvF n 2 (rec_RF n dr).2.2.1 dr ∧ LvF n 3 (rec_RF n dr).2.2.2.1 dr ∧ LvF n 4 (rec_RF n dr).2.2.2.2 dr := by
  intro dr
  induction dr with
  | zero => refine ⟨?_, ?_, ?_, ?_, ?_⟩ <;> (intro X D p o d fo sC sM h h10 h11 hdr; omega)
  | succ dr ih =>
    obtain ⟨i0, i1, i2, i3, i4⟩ := ih
    refine ⟨?_, ?_, ?_, ?_, ?_⟩
    · exact lvArr hn (lv := 0) (cC := 61) (cM := 261) (fin := fun st a b q => ((f_X3_join n st 5 a b q).bind fun q53 => ((f_X3_join n q53.2 (5 : Int32) b a q).bind fun q63 => ((f_X3_join n q63.2 (3 : Int32) q53.1 q63.1 q).bind fun q75 => (some (q75.1, q75.2)))))) (by decide) (by decide) (by decide) (by decide) tkp_tw (fun s d hd h h2 => by rw [goOn0 hd h, if_neg h2]) (fun s a b q h => by simp only [join_deadC h, Option.bind_some]) (fin0 hn) i1 i1
    · exact lvArr hn (lv := 1) (cC := 62) (cM := 260) (fin := fun st a b q => ((f_X3_join n st 5 a b q).bind fun q53 => (some (q53.1, q53.2)))) (by decide) (by decide) (by decide) (by decide) tkp_ar (fun s d hd h h2 => by rw [goOn1 hd h, if_neg h2]) (fun s a b q h => by simp only [join_deadC h, Option.bind_some]) (fin1 hn) i2 i1
    · exact lvSer hn (lv := 2) (kk := 4) (sg := 124) (by decide) (by decide) (by decide) (f_X3_readOr_7 n (rec_RF n dr).1 (rec_RF n dr).2.1 (rec_RF n dr).2.2.1 (rec_RF n dr).2.2.2.1 (rec_RF n dr).2.2.2.2) (fun k st x1 x2 => rfl) (fun s d hd h => goOn2 hd h) i3
    · exact lvSer hn (lv := 3) (kk := 3) (sg := 38) (by decide) (by decide) (by decide) (f_X3_readAnd_7 n (rec_RF n dr).1 (rec_RF n dr).2.1 (rec_RF n dr).2.2.1 (rec_RF n dr).2.2.2.1 (rec_RF n dr).2.2.2.2) (fun k st x1 x2 => rfl) (fun s d hd h => goOn3 hd h) i4
    · exact lv4 hn i4 i0
