/-! ===== the levels of a formula that go on with a sign ===== -/
def SerRun (n fo : Nat) (sM : StT) (d a : Nat) (sg : Int32) (res : Int32 × StT) : Prop := ∀ j, d < j → ((f_X12_series n sM (nI d) (nI a) sg).bind fun q => f_X12_readFormula_92 n (f_X12_readFormula_34 n fo) j q.2 (nI d) q.1) = some res
theorem serF {n : Nat} (hn : 100000 ≤ n) {lv kk : Nat} {sg : Int32} {sub : StT → Option (Int32 × StT)} {dr : Nat} (hlv : lv ≤ 3) (hkk : 3 ≤ kk ∧ kk ≤ 5) (hsg : sg ∈ [(40 : Int32), 41, 38, 124, 126, 44, 84, 76, 65, 80, 70, 83, 73, 74, 67, 88]) (L : Nat → StT → Int32 → Int32 → Option (Int32 × StT))
    (hL : ∀ k st x1 x2, L (k + 1) st x1 x2 = if (3000 : Int32) ≤ x2 then (some (x1, st)) else ((f_X3_look n st).bind fun q15 => (if q15.1 = sg then ((f_X8_start n q15.2).bind fun q27 => ((f_X8_take n q27.2).bind fun q35 => ((sub q35).bind fun q42 => ((f_X3_join n q42.2 (nI kk) x1 q42.1 q27.1).bind fun q46 => (L k q46.2 q46.1 (x2 + (1 : Int32))))))) else (some (x1, q15.2)))))
    (hgo : ∀ (s : StT) (d : Nat), d < 400 → s.2.1 10 d = nI lv → f_X12_goOn n s (nI d) = if s.2.1 11 d = 1 then ((f_X12_madeAt n s (nI kk) (s.2.1 12 d) (s.1 17) (s.2.1 13 d)).bind fun q => f_X12_series n q.2 (nI d) q.1 sg) else f_X12_series n s (nI d) (s.1 17) sg)
    (ih : LvF n (lv + 1) sub dr) : ∀ (m : Nat) (X : TX) (D : HD) (p o d fo : Nat) (sC sM : StT) (a i k : Nat), X.2.1 - p = m → RS X D p o sC sM → a < D.1.1 → sM.2.1 10 d = nI lv → 5 * (40 - o) + (5 - (lv + 1)) ≤ dr → d + 5 * (40 - o) + (5 - lv) < 400 → X.2.1 < fo + p → i < p → m < k → ∃ r sC', L k sC (nI a) (nI i) = some (r, sC') ∧ OkF n X D p p o d fo sC sM (SerRun n fo sM d a sg) r sC' := by
  have s1 : sg ≠ -1 := by intro e; rw [e] at hsg; exact absurd hsg (by decide)
  have s0 : sg ≠ 0 := by intro e; rw [e] at hsg; exact absurd hsg (by decide)
  have s2 : sg ≠ 262 := by intro e; rw [e] at hsg; exact absurd hsg (by decide)
  have hdead : ∀ k st x1 x2, ¬ st.1 10 = 0 → L (k + 1) st x1 x2 = some (x1, st) := by
    intro k st x1 x2 h0
    rw [hL, look_deadC h0, Option.bind_some]
    simp only []
    rw [if_neg (show ¬ (-1 : Int32) = sg from fun e => s1 e.symm), ite_self]
  intro m
  induction m using Nat.strongRecOn with
  | ind m ihm =>
    intro X D p o d fo sC sM a i k hm h ha h10 hdr hd hfo hi hk
    obtain ⟨k, rfl⟩ : ∃ q, k = q + 1 := ⟨k - 1, by omega⟩
    have hpn := h.2.1
    have hX3 := h.1.2.1.1.1
    have hdn : d < 400 := by omega
    obtain ⟨fo, rfl⟩ : ∃ q, fo = q + 1 := ⟨fo - 1, by omega⟩
    have hbt : ∀ i, i < X.2.1 → X.2.2 i < 256 := fun i hi => (h.1.2.1.1.2.2 i hi).2
    have hmem := tkp_s _ (tk_mem (tm := X.1) hbt (skX X p)) sg hsg
    have hi3 : ¬ (3000 : Int32) ≤ nI i := fun e => absurd ((nI_leI (a := 3000) (by omega) (by omega)).mp e) (by omega)
    have ha2 : a < 2000 := by have := h.1.1.2.2.1.2.1; omega
    have h0M : (uF sM 17 (nI a)).1 10 = 0 := h.1.2.2.2.2.2.2
    have hv : RS X D p o sC (uF sM 17 (nI a)) := h.rows (fun j hj => by simp only [uF_1]; rw [if_neg hj]) (fun _ _ => rfl)
    rw [hL, if_neg hi3]
    rcases look2 hn hv with ⟨k1, m1, ec, em, hB, hT, fC, fM, e17, e2⟩ | ⟨k1, m1, ec, em, hX, fC, fM, e17, e2⟩
    · rw [ec, Option.bind_some]
      simp only []
      by_cases c : (tkX X (skX X p)).1 = sg
      · have cM := hmem.mp c
        rw [if_pos c]
        unfold f_X8_start f_X8_take
        rw [Option.bind_some, Option.bind_some]
        simp only []
        generalize hmr : uA (uA (uA m1 12 (nI d) (nI a)) 13 (nI d) (m1.1 6)) 11 (nI d) 1 = mr
        have hmr1 : mr.1 = m1.1 := by rw [← hmr]; rfl
        have hBr : RB X D o k1 mr := by
          rw [← hmr]
          exact hB.mv (fun _ _ _ _ _ => rfl) rfl rfl (fun _ _ _ _ _ _ _ => rfl) (fun j hj => by simp only [uA_21]; rw [if_neg (by omega), if_neg (by omega), if_neg (by omega)])
        have hTr : Tk1 X.2.1 X.2.2 (skX X p) (tkX X (skX X p)) k1 mr := by unfold Tk1; rw [hmr1]; exact hT
        have tk := take2 hBr hpn hTr
        have hp1 := tk.2.2 (by rw [c]; exact s0)
        generalize hp1d : skX X p + (tkX X (skX X p)).2.2 = p1 at tk hp1
        have hp1n := tk.1.2.1
        generalize hm3 : (uF (uF mr 4 (mr.1 6 + mr.1 7)) 8 0) = m3 at tk
        have hm32 : m3.2 = mr.2 := by rw [← hm3]; rfl
        have r10 : m1.2.1 10 d = nI lv := by rw [e2]; exact h10
        have rr : mr.2.1 10 d = nI lv ∧ mr.2.1 11 d = 1 ∧ mr.2.1 12 d = nI a ∧ mr.2.1 13 d = nI (skX X p) := by
          rw [← hmr]
          simp only [uA_21, uA_1, if_true, if_neg (show ¬ (10 : Nat) = 11 by decide), if_neg (show ¬ (10 : Nat) = 12 by decide), if_neg (show ¬ (10 : Nat) = 13 by decide), if_neg (show ¬ (12 : Nat) = 11 by decide), if_neg (show ¬ (12 : Nat) = 13 by decide), if_neg (show ¬ (13 : Nat) = 11 by decide), upd_j, nI_cl (show d < 2 ^ 31 by omega)]
          exact ⟨r10, trivial, trivial, hT.2.2.2.2.2.2.2.2.1⟩
        have eser : f_X12_series n sM (nI d) (nI a) sg = some (nI (lv + 1), m3) := by
          unfold f_X12_series f_X12_pass
          rw [if_pos h0M, em, Option.bind_some]
          simp only []
          rw [if_pos cM, inB_nI hdn (by omega), if_pos rfl, if_pos rfl, if_pos rfl, Option.bind_some, if_pos rfl, show (uA m1 12 (nI d) (nI a)).1 6 = m1.1 6 from rfl, hmr, hm3, nI_cl (by omega), hm32, rr.1, nI_1]
        have hR := tk.1.rw0 (d + 1) (lv + 1)
        have m30 : m3.1 10 = 0 := tk.1.1.2.2.2.2.2.2
        obtain ⟨r, k5, e5, hO⟩ := ih X D p1 o (d + 1) fo _ _ hR (row0_10 (by omega)) (row0_11 (by omega)) (by omega) (by omega) (by omega)
        have fM3 : FRM d sM m3 := by
          rw [← hm3, ← hmr]
          exact (((((FRM.vl d _ _).tr (fM d)).tr (FRM.ar _ 12 _ _ (by decide) rfl (Nat.le_refl d) (by omega))).tr (FRM.ar _ 13 _ _ (by decide) rfl (Nat.le_refl d) (by omega))).tr (FRM.ar _ 11 _ _ (by decide) rfl (Nat.le_refl d) (by omega))).tr (FRM.ps _ _ _ _)
        have hCF : FRC sC (uF k1 2 0) := fC.tr (FRC.tk _ _)
        have hdown : ∀ res, Down n fo (lv + 1) (row0 m3 (d + 1) (lv + 1)) (d + 1) res → SerRun n (fo + 1) sM d a sg res := fun res hD j hj => by
          rw [eser, Option.bind_some]
          exact k92_next hn (by omega) (by omega) m30 hD j (by omega)
        rw [e5, Option.bind_some]
        simp only []
        rw [hT.2.2.2.2.2.1]
        rcases hO with ⟨f, D', p', m5, fo2, hr, hf, hR5, h17, hG, hpp, fC5, fM5, hfo5, hrun⟩ | ⟨D', m5, hX5, hG, fC5, fM5, hrun⟩
        · have hp'n := hR5.2.1
          have r5 : m5.2.1 10 d = nI lv ∧ m5.2.1 11 d = 1 ∧ m5.2.1 12 d = nI a ∧ m5.2.1 13 d = nI (skX X p) := by
            rw [fM5.2.2.1 10 d (by decide) (by decide) (by omega), fM5.2.2.1 11 d (by decide) (by decide) (by omega), fM5.2.2.1 12 d (by decide) (by decide) (by omega), fM5.2.2.1 13 d (by decide) (by decide) (by omega), row0_o (by omega) (by omega), row0_o (by omega) (by omega), row0_o (by omega) (by omega), row0_o (by omega) (by omega), hm32]
            exact rr
          have h05 := hR5.1.2.2.2.2.2.2
          rcases join2 hn hR5 hkk (Nat.lt_of_lt_of_le ha hG.1) hf (nI (skX X p)) with ⟨f', D2, k6, m6, ej, ek, hR6, hf6, hG6, fC6, fM6⟩ | ⟨D2, k6, m6, ej, ek, hX6, hG6, fC6, fM6⟩
          · obtain ⟨r7, k7, e7, hO7⟩ := ihm (X.2.1 - p') (by omega) X D2 p' o d fo2 k6 m6 f' (i + 1) k rfl hR6 hf6 (by rw [fM6.2.1 10 (by decide) (by decide) (by decide)]; exact r5.1) hdr hd (by omega) (by omega) (by omega)
            refine ⟨r7, k7, ?_, hO7.tr (hG.tr hG6) ((hCF.tr fC5).tr fC6) (((fM3.tr (row0_fr (by omega) (by omega))).tr (fM5.lo (by omega))).tr (fM6.fr d)) (by omega) (by omega) (fun res hS => hdown res (hrun res ?_))⟩
            · rw [hr, ej, Option.bind_some]
              simp only []
              rw [nI_1]; exact e7
            · refine up_step (by omega) h05 (fun j hj => ?_)
              rw [hgo m5 d hdn r5.1, if_pos r5.2.1, r5.2.2.1, h17, r5.2.2.2, ek, Option.bind_some]
              exact hS j hj
          · obtain ⟨k, rfl⟩ : ∃ q, k = q + 1 := ⟨k - 1, by omega⟩
            refine ⟨-1, k6, ?_, Or.inr ⟨D2, uF m6 17 (-1), hX6.mv rfl rfl rfl rfl (fun _ _ _ => rfl) rfl rfl rfl rfl rfl (fun _ _ => rfl), hG.tr hG6, (hCF.tr fC5).tr fC6, (((fM3.lo (Nat.zero_le _)).tr (row0_fr (by omega) (by omega))).tr (fM5.lo (by omega))).tr ((fM6 0).tr (FRM.vl _ _ _)), hdown _ (hrun _ ?_)⟩⟩
            · rw [hr, ej, Option.bind_some]
              simp only []
              exact hdead k k6 _ _ hX6.c0
            · refine up_step (by omega) h05 (fun j hj => ?_)
              have es : f_X12_series n m6 (nI d) (-1) sg = some (-1, uF m6 17 (-1)) := by
                unfold f_X12_series
                rw [if_neg (show ¬ (uF m6 17 (-1)).1 10 = 0 from hX6.m0)]
              rw [hgo m5 d hdn r5.1, if_pos r5.2.1, r5.2.2.1, h17, r5.2.2.2, ek, Option.bind_some, es, Option.bind_some]
              exact k92_fault (s := uF m6 17 (-1)) hX6.m0 j (by omega)
        · obtain ⟨k, rfl⟩ : ∃ q, k = q + 1 := ⟨k - 1, by omega⟩
          refine ⟨-1, k5, ?_, Or.inr ⟨D', m5, hX5, hG, hCF.tr fC5, ((fM3.lo (Nat.zero_le _)).tr (row0_fr (by omega) (by omega))).tr fM5, hdown _ hrun⟩⟩
          rw [join_deadC hX5.c0, Option.bind_some]
          simp only []
          exact hdead k k5 _ _ hX5.c0
      · rw [if_neg c]
        refine ⟨nI a, k1, rfl, Or.inl ⟨a, D, p, m1, fo + 1, rfl, ha, ⟨hB, hpn, Or.inr hT⟩, e17, Gd.rf _, Nat.le_refl _, fC, (FRM.vl d _ _).tr (fM d), Nat.le_refl _, fun res hU j hj => ?_⟩⟩
        unfold f_X12_series
        rw [if_pos h0M, em, Option.bind_some]
        simp only []
        rw [if_neg (fun e => c (hmem.mpr e)), Option.bind_some]
        exact hU j hj
    · rw [ec, Option.bind_some]
      simp only []
      rw [if_neg (fun e => s1 e.symm)]
      refine ⟨nI a, k1, rfl, Or.inr ⟨D, m1, hX, Gd.rf _, fC, (FRM.vl 0 _ _).tr (fM 0), fun j hj => ?_⟩⟩
      unfold f_X12_series
      rw [if_pos h0M, em, Option.bind_some]
      simp only []
      rw [if_neg (fun e => s2 e.symm), Option.bind_some]
      exact k92_fault hX.m0 j (by omega)
theorem lvSer {n : Nat} (hn : 100000 ≤ n) {lv kk : Nat} {sg : Int32} {sub : StT → Option (Int32 × StT)} {dr : Nat} (hlv : lv ≤ 3) (hkk : 3 ≤ kk ∧ kk ≤ 5) (hsg : sg ∈ [(40 : Int32), 41, 38, 124, 126, 44, 84, 76, 65, 80, 70, 83, 73, 74, 67, 88]) (L : Nat → StT → Int32 → Int32 → Option (Int32 × StT))
    (hL : ∀ k st x1 x2, L (k + 1) st x1 x2 = if (3000 : Int32) ≤ x2 then (some (x1, st)) else ((f_X3_look n st).bind fun q15 => (if q15.1 = sg then ((f_X8_start n q15.2).bind fun q27 => ((f_X8_take n q27.2).bind fun q35 => ((sub q35).bind fun q42 => ((f_X3_join n q42.2 (nI kk) x1 q42.1 q27.1).bind fun q46 => (L k q46.2 q46.1 (x2 + (1 : Int32))))))) else (some (x1, q15.2)))))
    (hgo : ∀ (s : StT) (d : Nat), d < 400 → s.2.1 10 d = nI lv → f_X12_goOn n s (nI d) = if s.2.1 11 d = 1 then ((f_X12_madeAt n s (nI kk) (s.2.1 12 d) (s.1 17) (s.2.1 13 d)).bind fun q => f_X12_series n q.2 (nI d) q.1 sg) else f_X12_series n s (nI d) (s.1 17) sg)
    (ih : LvF n (lv + 1) sub dr) : LvF n lv (fun st => (sub st).bind fun q1 => L n q1.2 q1.1 0) (dr + 1) := by
  have s1 : sg ≠ -1 := by intro e; rw [e] at hsg; exact absurd hsg (by decide)
  intro X D p o d fo sC sM h h10 h11 hdr hd hfo
  have hX3 := h.1.2.1.1.1
  have hpn := h.2.1
  obtain ⟨r, k5, e5, hO⟩ := ih X D p o (d + 1) fo sC (row0 sM (d + 1) (lv + 1)) (h.rw0 _ _) (row0_10 (by omega)) (row0_11 (by omega)) (by omega) (by omega) hfo
  have hpush : ∀ res, Down n fo (lv + 1) (row0 sM (d + 1) (lv + 1)) (d + 1) res → Down n fo lv sM d res := fun res hD => down_push (by omega) (by omega) h10 hD
  simp only [e5, Option.bind_some]
  rcases hO with ⟨f, D', p', m5, fo2, hr, hf, hR5, h17, hG, hpp, fC5, fM5, hfo5, hrun⟩ | ⟨D', m5, hX5, hG, fC5, fM5, hrun⟩
  · have r5 : m5.2.1 10 d = nI lv ∧ m5.2.1 11 d = 0 := by
      rw [fM5.2.2.1 10 d (by decide) (by decide) (by omega), fM5.2.2.1 11 d (by decide) (by decide) (by omega), row0_o (by omega) (by omega), row0_o (by omega) (by omega)]
      exact ⟨h10, h11⟩
    obtain ⟨r7, k7, e7, hO7⟩ := serF hn hlv hkk hsg L hL hgo ih (X.2.1 - p') X D' p' o d fo2 k5 m5 f 0 n rfl hR5 hf r5.1 (by omega) hd (by omega) (by omega) (by omega)
    refine ⟨r7, k7, by rw [hr]; exact e7, hO7.tr hG fC5 ((row0_fr (by omega) (by omega)).tr (fM5.lo (by omega))) (by omega) (by omega) (fun res hS => hpush res (hrun res ?_))⟩
    refine up_step (by omega) hR5.1.2.2.2.2.2.2 (fun j hj => ?_)
    rw [hgo m5 d (by omega) r5.1, if_neg (by rw [r5.2]; decide), h17]
    exact hS j hj
  · obtain ⟨n', hn'⟩ : ∃ q, n = q + 1 := ⟨n - 1, by omega⟩
    refine ⟨r, k5, ?_, Or.inr ⟨D', m5, hX5, hG, fC5, (row0_fr (by omega) (by omega)).tr fM5, hpush _ hrun⟩⟩
    have := hL n' k5 r 0
    rw [look_deadC hX5.c0, Option.bind_some] at this
    simp only [] at this
    rw [if_neg (show ¬ (-1 : Int32) = sg from fun e => s1 e.symm), ite_self, ← hn'] at this
    exact this
