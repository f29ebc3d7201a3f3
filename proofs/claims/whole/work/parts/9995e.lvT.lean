/-! ===== a term, on both sides ===== -/
theorem nT_F {s : StT} {u : Nat} {k x : Int32} : (∀ j, j ≠ 34 → (nT s u k x).1 j = s.1 j) ∧ (∀ j, j < 40 → (nT s u k x).2.1 j = s.2.1 j) := by
  refine ⟨fun j hj => ?_, fun j hj => ?_⟩
  · unfold nT; simp only [uF_1, uA_1]; rw [if_neg hj]
  · unfold nT; simp only [uF_2, uA_21]
    rw [if_neg (by omega), if_neg (by omega), if_neg (by omega), if_neg (by omega), if_neg (by omega)]
theorem begin_letter {n : Nat} {s s1 : StT} {d m : Int32} {k : Nat} (hk : k ∈ LTR) (e : f_X12_look n s = some (nI k, s1)) (h0 : s1.1 10 = 0) : f_X12_beginTerm n s d m = f_X12_beginTerm_137 n s1 d m (nI k) 1 := by
  unfold f_X12_beginTerm
  rw [e, Option.bind_some]
  simp only []
  rw [if_pos h0]
  simp only [LTR, List.mem_cons, List.not_mem_nil, or_false] at hk
  rcases hk with rfl | rfl | rfl | rfl | rfl | rfl | rfl | rfl | rfl <;> rfl
theorem begin_none {n : Nat} {s s1 : StT} {d m y : Int32} (e : f_X12_look n s = some (y, s1)) (h0 : s1.1 10 = 0) (h84 : y ≠ 84) (h257 : y ≠ 257) (hk : ∀ k, k ∈ LTR → ¬ y = nI k) : f_X12_beginTerm n s d m = f_X12_beginTerm_137 n s1 d m y 0 := by
  unfold f_X12_beginTerm
  rw [e, Option.bind_some]
  simp only []
  rw [if_pos h0, if_neg h84, if_neg h257, if_neg (show ¬ y = (76 : Int32) from hk 76 (by decide)), if_neg (show ¬ y = (65 : Int32) from hk 65 (by decide)), if_neg (show ¬ y = (80 : Int32) from hk 80 (by decide)), if_neg (show ¬ y = (70 : Int32) from hk 70 (by decide)), if_neg (show ¬ y = (83 : Int32) from hk 83 (by decide)), if_neg (show ¬ y = (73 : Int32) from hk 73 (by decide)), if_neg (show ¬ y = (74 : Int32) from hk 74 (by decide)), if_neg (show ¬ y = (67 : Int32) from hk 67 (by decide)), if_neg (show ¬ y = (88 : Int32) from hk 88 (by decide))]
theorem parts_none {n : Nat} {s : StT} {y : Int32} (hk : ∀ k, k ∈ LTR → ¬ y = nI k) : f_X7_partsOf n s y = some (0, s) := by
  unfold f_X7_partsOf
  rw [if_neg (show ¬ y = (65 : Int32) from hk 65 (by decide)), if_neg (show ¬ y = (67 : Int32) from hk 67 (by decide)), if_neg (show ¬ y = (70 : Int32) from hk 70 (by decide)), if_neg (show ¬ y = (73 : Int32) from hk 73 (by decide)), if_neg (show ¬ y = (74 : Int32) from hk 74 (by decide)), if_neg (show ¬ y = (76 : Int32) from hk 76 (by decide)), if_neg (show ¬ y = (80 : Int32) from hk 80 (by decide)), if_neg (show ¬ y = (83 : Int32) from hk 83 (by decide)), if_neg (show ¬ y = (88 : Int32) from hk 88 (by decide))]
theorem deadT {n : Nat} {rT : StT → Int32 → Option (Int32 × StT)} {rP : StT → Int32 → Int32 → Int32 → Option (Int32 × StT)} {s : StT} {x : Int32} (h : ¬ s.1 10 = 0) : g_X3_readTerm n rT rP s x = some (-1, s) := by
  unfold g_X3_readTerm f_X8_start
  rw [look_deadC h, Option.bind_some]
  simp only []
  rw [if_neg (by decide), if_neg (by decide), parts_none (by decide), Option.bind_some]
  simp only [if_true]
  rw [Option.bind_some]
  simp only []
  rw [fail_deadC h, Option.bind_some]
/-- the formula of L, with its comma -/
def f_X3_readLambdaFormula (n : Nat) (st : StT) : Option (Int32 × StT) := (f_X3_readBothWays n st).bind fun q1 => ((f_X3_expect n q1.2 (44 : Int32)).bind fun q8 => (some (q1.1, q8)))
theorem lamF (n : Nat) (st : StT) (K : StT → Int32 → Option (Int32 × StT)) : ((f_X3_readBothWays n st).bind fun q82 => ((f_X3_expect n q82.2 (44 : Int32)).bind fun q89 => K q89 q82.1)) = (f_X3_readLambdaFormula n st).bind fun q80 => K q80.2 q80.1 := by
  unfold f_X3_readLambdaFormula
  cases f_X3_readBothWays n st with
  | none => rfl
  | some q =>
    rw [Option.bind_some, Option.bind_some]
    cases f_X3_expect n q.2 (44 : Int32) with
    | none => rfl
    | some z => rfl
theorem dead87 {n : Nat} {rT0 rT : StT → Int32 → Option (Int32 × StT)} {rP : StT → Int32 → Int32 → Int32 → Option (Int32 × StT)} (hTd : ∀ s x, ¬ s.1 10 = 0 → rT s x = some (-1, s)) {k : Nat} (hk : k ∈ LTR) (y0 : Int32) (m : Nat) {D : HD} {s mm : StT} (h : RX D s mm) : ∃ r s', f_X3_readTerm_92 n rT0 (fun s a b c => g_X3_readPart n rT rP s a b c) s (nI m) (nI k) y0 = some (r, s') ∧ RX D s' mm ∧ FTC 0 s s' := by
  obtain ⟨z1, ez1⟩ := part_dead (n := n) (rP := rP) (m := m) hTd h.c0 hk (show 0 < 1 by decide) (by decide)
  obtain ⟨z2, ez2⟩ := part_dead (n := n) (rP := rP) (m := m) hTd h.c0 hk (show 0 < 2 by decide) (by decide)
  obtain ⟨r, s', et, hX, ft⟩ := tail_dead (n := n) hk y0 (-1) z1 z2 h
  refine ⟨r, s', ?_, hX, ft⟩
  unfold f_X3_readTerm_92
  simp only []
  rw [part0 hk, hTd s _ h.c0, Option.bind_some]
  simp only []
  rw [show (1 : Int32) = nI 1 from rfl, ez1, Option.bind_some]
  simp only []
  rw [show (2 : Int32) = nI 2 from rfl, ez2, Option.bind_some]
  exact et
/-- the open term's row in the reference -/
def oT (s : StT) (o u : Nat) (m : Int32) : StT := uA (uA (uA s 45 (nI o) (nI u)) 46 (nI o) 0) 47 (nI o) m
theorem oT_rows {s : StT} {o u : Nat} {m : Int32} (ho : o < 60) : (oT s o u m).2.1 45 o = nI u ∧ (oT s o u m).2.1 46 o = nI 0 ∧ (oT s o u m).2.1 47 o = m := by
  unfold oT
  simp only [uA_21, if_true, if_neg (show ¬ (45 : Nat) = 46 by decide), if_neg (show ¬ (45 : Nat) = 47 by decide), if_neg (show ¬ (46 : Nat) = 47 by decide), upd_j, nI_cl (show o < 2 ^ 31 by omega)]
  exact ⟨trivial, rfl, trivial⟩
theorem oT_A {s : StT} {o u : Nat} {m : Int32} : ∀ j, j < 45 → (oT s o u m).2.1 j = s.2.1 j := by
  intro j hj
  unfold oT; simp only [uA_21]; rw [if_neg (by omega), if_neg (by omega), if_neg (by omega)]
theorem oT_fr {s : StT} {d v o u : Nat} {m : Int32} (hd : d ≤ o) (ho : o < 60) : FTM d v s (oT s o u m) := ((FTM.ar s 45 _ _ (by omega) rfl (by omega)).tr (FTM.ar _ 46 _ _ (by omega) rfl (by omega))).tr (FTM.ar _ 47 _ _ (by omega) rfl (by omega))
theorem lvT {n : Nat} (hn : 100000 ≤ n) {kk : Nat} {rT0 rT : StT → Int32 → Option (Int32 × StT)} {rP : StT → Int32 → Int32 → Int32 → Option (Int32 × StT)} (ih : LvT n kk rT) (hTd : 1 ≤ kk → ∀ s x, ¬ s.1 10 = 0 → rT s x = some (-1, s)) : LvT n (kk + 1) (fun s x => g_X3_readTerm n rT0 (fun s a b c => g_X3_readPart n rT rP s a b c) s x) := by
  intro X D p o m fo N u sC sM h hN hU hNu h2u hm hkk hfo
  have ho40 := h.1.2.2.1.1
  have hX3 := h.1.2.1.1.1
  have hpn := h.2.1
  have hu : u < 1600 := by omega
  have h0S := h.1.2.2.2.2.2.2
  obtain ⟨hh, hhe⟩ : ∃ q, 41 - o = q + 1 := ⟨40 - o, by omega⟩
  obtain ⟨fo, rfl⟩ : ∃ q, fo = q + 1 := ⟨fo - 1, by omega⟩
  have hbt : ∀ i, i < X.2.1 → X.2.2 i < 256 := fun i hi => (h.1.2.1.1.2.2 i hi).2
  have hmem := tk_mem (tm := X.1) hbt (skX X p)
  rcases look2 hn h with ⟨k1, m1, ec, em, hB, hT, fC, fM, e17, e2⟩ | ⟨k1, m1, ec, em, hX, fC, fM, e17, e2⟩
  · have h0 := hB.2.2.2.2.2.2
    have hc0 := hB.2.2.2.2.2.1
    have k18 : k1.1 8 = nI N := by rw [fC.1 8 (by decide)]; exact hN
    have m134 : m1.1 34 = nI u := by rw [(fM 0).1 34 (by decide)]; exact hU
    by_cases k110 : (tkX X (skX X p)).1 = 110
    · have kM : (tkX X (skX X p)).2.1 = 257 := (tkp_n _ hmem).mp k110
      rcases hyp2 hn hB hpn hT k110 (nn := m) (by omega) with ⟨v, hv, eh, eg⟩ | ⟨c2, m2, eh, eg, hX, fC2, fM2⟩
      · have tk := take2 hB hpn hT
        have hp1 := tk.2.2 (by rw [k110]; decide)
        generalize hp1d : skX X p + (tkX X (skX X p)).2.2 = p1 at tk hp1
        have hp1n := tk.1.2.1
        refine ⟨nI N, aT (uF k1 2 0) N 104 (nI v) 0 0 (-1), ?_, Or.inl ⟨N, D, p1, uF (uF (uA (nT m1 u 72 (nI m)) 42 (nI u) (nI v)) 4 (m1.1 6 + m1.1 7)) 8 0, fo, u + 1, rfl, Nat.le_refl _, rfl, rfl, ?_, ?_, Gd.rf _, hp1, by omega, by omega, ?_, ?_, by omega, fun res hUp => ?_⟩⟩
        · show g_X3_readTerm n rT0 _ sC (nI m) = _
          unfold g_X3_readTerm
          rw [ec, Option.bind_some]
          simp only []
          rw [if_pos k110]
          unfold f_X3_readHypothesis f_X8_take f_X7_hypothesis_T0
          rw [eh, Option.bind_some]
          simp only []
          rw [if_pos (nI_nn (by omega)), if_pos ((nI_ltI (by omega) (by omega)).mpr hv), Option.bind_some, addT0 (s := uF k1 2 0) k18 (by omega), Option.bind_some, Option.bind_some, Option.bind_some]
        · rw [hhe]
          have hr := aT_rows (s := uF k1 2 0) (N := N) (by omega) 104 (nI v) 0 0 (-1)
          have hq := nT_40 (s := m1) hu 72 (nI m)
          refine ⟨by omega, by omega, by omega, by omega, ?_, Or.inl ⟨hr.1, ?_, rfl, v, hv, hr.2.1, ?_⟩⟩
          · simp only [uF_2, uA_21, if_neg (show ¬ (41 : Nat) = 42 by decide)]; exact hq.2
          · simp only [uF_2, uA_21, if_neg (show ¬ (40 : Nat) = 42 by decide)]; exact hq.1
          · simp only [uF_2, uA_21, if_true, upd_j, nI_cl (show u < 2 ^ 31 by omega)]
        · refine tk.1.mvT aT_F.1 aT_F.2.1 aT_F.2.2.1 (fun j hj => ?_) (fun j hj => ?_)
          · simp only [uF_1]
            by_cases a : j = 8
            · rw [if_pos a, if_pos a]
            · rw [if_neg a, if_neg a]
              by_cases b : j = 4
              · rw [if_pos b, if_pos b]
              · rw [if_neg b, if_neg b]; exact nT_F.1 j (by omega)
          · simp only [uF_2, uA_21]; rw [if_neg (by omega)]; exact nT_F.2 j (by omega)
        · exact ((fC.ft N).tr ((FRC.tk _ _).ft N)).tr (aT_fr (by omega) _ _ _ _ _)
        · exact (((((fM 0).ft o u).tr (nT_fr (Nat.le_refl _) hu _ _)).tr (FTM.ar _ 42 _ _ (Or.inl ⟨by decide, by decide, Nat.le_refl u⟩) rfl (by omega)))).tr ((FRM.ps 0 _ _ _).ft o u)
        · refine dn_leaf (by omega) h0S (s' := uF (uF (uA (nT m1 u 72 (nI m)) 42 (nI u) (nI v)) 4 (m1.1 6 + m1.1 7)) 8 0) ?_ (by omega) ?_ hUp
          · show (nT m1 u 72 (nI m)).1 10 = 0
            rw [nT_F.1 10 (by decide)]; exact h0
          · unfold f_X12_beginTerm f_X12_pass
            rw [em, Option.bind_some]
            simp only []
            rw [if_pos h0, if_neg (by rw [kM]; decide), if_pos kM, eg, Option.bind_some]
            simp only []
            rw [if_pos (nI_nn (by omega)), newT m134 hu, Option.bind_some]
            simp only []
            rw [inB_nI hu (by omega), if_pos rfl, Option.bind_some]
            rfl
      · refine ⟨-1, c2, ?_, Or.inr ⟨D, m2, hX, Gd.rf _, (fC.tr fC2).ft 0, ((fM 0).tr (fM2 0)).ft 0 0, dn_fault h0S hX.m0 (x := -1) ?_⟩⟩
        · show g_X3_readTerm n rT0 _ sC (nI m) = _
          unfold g_X3_readTerm
          rw [ec, Option.bind_some]
          simp only []
          rw [if_pos k110, eh, Option.bind_some]
        · unfold f_X12_beginTerm
          rw [em, Option.bind_some]
          simp only []
          rw [if_pos h0, if_neg (by rw [kM]; decide), if_pos kM, eg, Option.bind_some]
          simp only []
          rw [if_neg (by decide)]
    · have kM257 : ¬ (tkX X (skX X p)).2.1 = 257 := fun e => k110 ((tkp_n _ hmem).mpr e)
      by_cases k84 : (tkX X (skX X p)).1 = 84
      · have kM : (tkX X (skX X p)).2.1 = 84 := (tkp_s _ hmem 84 (by decide)).mp k84
        have tk := take2 hB hpn hT
        have hp1 := tk.2.2 (by rw [k84]; decide)
        generalize hp1d : skX X p + (tkX X (skX X p)).2.2 = p1 at tk hp1
        have hp1n := tk.1.2.1
        refine ⟨nI N, aT (uF k1 2 0) N 84 0 0 0 (-1), ?_, Or.inl ⟨N, D, p1, nT (uF (uF m1 4 (m1.1 6 + m1.1 7)) 8 0) u 84 (nI m), fo, u + 1, rfl, Nat.le_refl _, rfl, rfl, ?_, ?_, Gd.rf _, hp1, by omega, by omega, ?_, ?_, by omega, fun res hUp => ?_⟩⟩
        · show g_X3_readTerm n rT0 _ sC (nI m) = _
          unfold g_X3_readTerm f_X8_take f_X7_unit_T0
          rw [ec, Option.bind_some]
          simp only []
          rw [if_neg k110, if_pos k84, Option.bind_some, addT0 (s := uF k1 2 0) k18 (by omega), Option.bind_some, Option.bind_some]
        · rw [hhe]
          have hr := aT_rows (s := uF k1 2 0) (N := N) (by omega) 84 0 0 0 (-1)
          have hq := nT_40 (s := uF (uF m1 4 (m1.1 6 + m1.1 7)) 8 0) hu 84 (nI m)
          exact ⟨by omega, by omega, by omega, by omega, hq.2, Or.inr (Or.inl ⟨hr.1, hq.1, rfl⟩)⟩
        · exact tk.1.mvT aT_F.1 aT_F.2.1 aT_F.2.2.1 (fun j hj => nT_F.1 j (by omega)) (fun j hj => nT_F.2 j (by omega))
        · exact ((fC.ft N).tr ((FRC.tk _ _).ft N)).tr (aT_fr (by omega) _ _ _ _ _)
        · exact (((fM 0).ft o u).tr ((FRM.ps 0 _ _ _).ft o u)).tr (nT_fr (Nat.le_refl _) hu _ _)
        · refine dn_leaf (by omega) h0S (s' := nT (uF (uF m1 4 (m1.1 6 + m1.1 7)) 8 0) u 84 (nI m)) ?_ (by omega) ?_ hUp
          · rw [nT_F.1 10 (by decide)]; exact h0
          · unfold f_X12_beginTerm f_X12_pass
            rw [em, Option.bind_some]
            simp only []
            rw [if_pos h0, if_pos kM, Option.bind_some, newT (s := uF (uF m1 4 (m1.1 6 + m1.1 7)) 8 0) m134 hu, Option.bind_some]
      · have kM84 : ¬ (tkX X (skX X p)).2.1 = 84 := fun e => k84 ((tkp_s _ hmem 84 (by decide)).mpr e)
        by_cases kl : ∃ k, k ∈ LTR ∧ (tkX X (skX X p)).1 = nI k
        · obtain ⟨k, hk, kk1⟩ := kl
          have hsg : nI k ∈ [(40 : Int32), 41, 38, 124, 126, 44, 84, 76, 65, 80, 70, 83, 73, 74, 67, 88] := by
            have : ∀ k, k ∈ LTR → nI k ∈ [(40 : Int32), 41, 38, 124, 126, 44, 84, 76, 65, 80, 70, 83, 73, 74, 67, 88] := by decide
            exact this k hk
          have kM : (tkX X (skX X p)).2.1 = nI k := (tkp_s _ hmem (nI k) hsg).mp kk1
          have hkb := ltr_bd hk
          have hpb := pk_bd (k := k)
          rw [kM] at em
          have ebeg := begin_letter (d := nI o) (m := nI m) hk em h0
          have kz : (tkX X (skX X p)).1 ≠ 0 := by rw [kk1]; exact fun e => absurd (nI_inj (b := 0) (by omega) (by omega) e) (by omega)
          have ecl : ∀ q : Int32 × StT, f_X3_opens n k1 = some q → g_X3_readTerm n rT0 (fun s a b c => g_X3_readPart n rT rP s a b c) sC (nI m) = (if q.1 = 0 then (some ((-1 : Int32), q.2)) else ((f_X3_expect n q.2 (40 : Int32)).bind fun q70 => (if nI k = (76 : Int32) then ((f_X3_readLambdaFormula n q70).bind fun q80 => (f_X3_readTerm_92 n rT0 (fun s a b c => g_X3_readPart n rT rP s a b c) q80.2 (nI m) (nI k) q80.1)) else (f_X3_readTerm_92 n rT0 (fun s a b c => g_X3_readPart n rT rP s a b c) q70 (nI m) (nI k) (0 : Int32))))) := by
            intro q eq
            unfold g_X3_readTerm
            rw [ec, Option.bind_some]
            simp only []
            rw [if_neg k110, if_neg k84, kk1, partsC hk, Option.bind_some]
            simp only []
            rw [if_neg (show ¬ nI (pk k) = (0 : Int32) from fun e => absurd (nI_inj (b := 0) (by omega) (by omega) e) (by omega)), eq, Option.bind_some]
            by_cases cq : q.1 = 0
            · rw [if_pos cq, if_pos cq]
            · rw [if_neg cq, if_neg cq]
              refine congrArg _ (funext fun q70 => ?_)
              by_cases ck : nI k = (76 : Int32)
              · rw [if_pos ck, if_pos ck]
                exact lamF n q70 (fun a b => f_X3_readTerm_92 n rT0 (fun s a b c => g_X3_readPart n rT rP s a b c) a (nI m) (nI k) b)
              · rw [if_neg ck, if_neg ck]
          rcases opens2 (n := n) (p := p) hB hT with ⟨ho, eo, en, hB2, hT2⟩ | ⟨eo, en, hX⟩
          · have tk := take2 hB2 hpn hT2
            have hp1 := tk.2.2 kz
            generalize hp1d : skX X p + (tkX X (skX X p)).2.2 = p1 at tk hp1
            have hp1n := tk.1.2.1
            generalize hm3 : (uF (uF (uF m1 13 (nI (o + 1))) 4 ((uF m1 13 (nI (o + 1))).1 6 + (uF m1 13 (nI (o + 1))).1 7)) 8 0) = m3 at tk
            have m334 : m3.1 34 = nI u := by rw [← hm3]; exact m134
            have fM3 : FTM o u sM m3 := by rw [← hm3]; exact (((fM 0).tr (FRM.op _ _ _)).tr (FRM.ps _ _ _ _)).ft o u
            generalize hm4 : oT (nT m3 u (nI k) (nI m)) o u (nI m) = m4
            have hR4 : RS X D p1 (o + 1) (uF (uF k1 9 (nI (o + 1))) 2 0) m4 := by
              rw [← hm4]
              exact tk.1.mvT (fun _ _ => rfl) (fun _ _ => rfl) rfl (fun j hj => nT_F.1 j (by omega)) (fun j hj => by rw [oT_A j (by omega)]; exact nT_F.2 j (by omega))
            have m434 : m4.1 34 = nI (u + 1) := by rw [← hm4]; rfl
            have r4 : m4.2.1 45 o = nI u ∧ m4.2.1 46 o = nI 0 ∧ m4.2.1 47 o = nI m ∧ m4.2.1 40 u = nI k ∧ m4.2.1 41 u = nI m := by
              rw [← hm4]
              have a := oT_rows (s := nT m3 u (nI k) (nI m)) (u := u) (m := nI m) (show o < 60 by omega)
              have b := nT_40 (s := m3) hu (nI k) (nI m)
              refine ⟨a.1, a.2.1, a.2.2, ?_, ?_⟩
              · rw [oT_A 40 (by decide)]; exact b.1
              · rw [oT_A 41 (by decide)]; exact b.2
            have fM4 : FTM o u sM m4 := by rw [← hm4]; exact (fM3.tr (nT_fr (Nat.le_refl _) hu _ _)).tr (oT_fr (Nat.le_refl _) (by omega))
            have fCc : FTC N sC (uF (uF k1 9 (nI (o + 1))) 2 0) := ((fC.tr (FRC.op _ _)).tr (FRC.tk _ _)).ft N
            have ebeg2 : ∀ q : Int32 × StT, f_X12_want n m4 40 = some q → f_X12_beginTerm n sM (nI o) (nI m) = (if q.1 = 0 then (some ((-1 : Int32), q.2)) else (if nI k = (76 : Int32) then ((f_X12_readFormula n q.2).bind fun q214 => (if inB (nI o) 60 = true then (if inB (q214.2.2.1 45 (nI o).toNatClampNeg) 1600 = true then (if ((uA q214.2 44 (q214.2.2.1 45 (nI o).toNatClampNeg) q214.1).1 10) = 0 then ((f_X12_want n (uA q214.2 44 (q214.2.2.1 45 (nI o).toNatClampNeg) q214.1) (44 : Int32)).bind fun q242 => (if q242.1 = 0 then (some ((-1 : Int32), q242.2)) else (some ((-1 : Int32), q242.2)))) else (some ((-1 : Int32), (uA q214.2 44 (q214.2.2.1 45 (nI o).toNatClampNeg) q214.1)))) else none) else none)) else (some ((-1 : Int32), q.2)))) := by
              intro q eq
              rw [ebeg]
              unfold f_X12_beginTerm_137
              rw [if_neg (show ¬ (1 : Int32) = 0 by decide), en, Option.bind_some]
              simp only []
              rw [if_neg (show ¬ (1 : Int32) = 0 by decide)]
              unfold f_X12_pass
              rw [Option.bind_some, hm3, newT m334 hu, Option.bind_some]
              simp only []
              rw [inB_nI (show o < 60 by omega) (by omega), if_pos rfl, if_pos rfl, if_pos rfl, show uA (uA (uA (nT m3 u (nI k) (nI m)) 45 (nI o) (nI u)) 46 (nI o) 0) 47 (nI o) (nI m) = m4 from hm4, eq, Option.bind_some]
            rw [show (fun s x => g_X3_readTerm n rT0 (fun s a b c => g_X3_readPart n rT rP s a b c) s x) sC (nI m) = g_X3_readTerm n rT0 (fun s a b c => g_X3_readPart n rT rP s a b c) sC (nI m) from rfl, ecl _ eo, if_neg (show ¬ (1 : Int32) = 0 by decide)]
            have kkp : 1 ≤ kk := by omega
            rcases want2 hn hR4 (x := 40) (y := 40) (by decide) (by decide) (fun pr hpr => tkp_s pr hpr 40 (by decide)) with ⟨p5, c5, m5, ej, ek, hR5, _, hp5, fC5, fM5, _, g2⟩ | ⟨c5, m5, ej, ek, hX5, fC5, fM5⟩
            · have hp5 := hp5 (by decide)
              have hp5n := hR5.2.1
              have c58 : c5.1 8 = nI N := by rw [fC5.1 8 (by decide)]; exact k18
              have m534 : m5.1 34 = nI (u + 1) := by rw [(fM5 0).1 34 (by decide)]; exact m434
              rw [ej, Option.bind_some]
              have fC6 : FTC N sC c5 := fCc.tr (fC5.ft N)
              have fM6 : FTM o u sM m5 := fM4.tr ((fM5 0).ft o u)
              have eb := ebeg2 _ ek
              rw [if_neg (show ¬ (1 : Int32) = 0 by decide)] at eb
              by_cases c76 : k = 76
              · rw [if_pos (show nI k = (76 : Int32) by rw [c76]; rfl)]
                rw [if_pos (show nI k = (76 : Int32) by rw [c76]; rfl)] at eb
                unfold f_X3_readLambdaFormula
                obtain ⟨rf, c7, e7, hF⟩ := readF2 hn hR5
                rw [e7, Option.bind_some]
                simp only []
                rcases hF with ⟨f, D', p7, m7, hrf, hf, hR7, em7, hG7, hp7, fC7, fM7⟩ | ⟨D', m7, hX7, em7, hG7, fC7, fM7⟩
                · have hp7n := hR7.2.1
                  have q45 : m7.2.1 45 o = nI u := by rw [fM7.2.1 45 (by decide), g2]; exact r4.1
                  have hR7' : RS X D' p7 (o + 1) c7 (uA m7 44 (nI u) (nI f)) := hR7.mvT (fun _ _ => rfl) (fun _ _ => rfl) rfl (fun _ _ => rfl) (fun j hj => by simp only [uA_21]; rw [if_neg (by omega)])
                  rw [em7, Option.bind_some] at eb
                  simp only [] at eb
                  rw [inB_nI (show o < 60 by omega) (by omega), if_pos rfl, nI_cl (by omega), q45, inB_nI hu (by omega), if_pos rfl, if_pos (show (uA m7 44 (nI u) (nI f)).1 10 = 0 from hR7.1.2.2.2.2.2.2)] at eb
                  have fMu : FTM o u m7 (uA m7 44 (nI u) (nI f)) := FTM.ar _ 44 _ _ (Or.inl ⟨by decide, by decide, Nat.le_refl u⟩) rfl (by omega)
                  rcases want2 hn hR7' (x := 44) (y := 44) (by decide) (by decide) (fun pr hpr => tkp_s pr hpr 44 (by decide)) with ⟨p8, c8, m8, ej8, ek8, hR8, _, hp8, fC8, fM8, _, g28⟩ | ⟨c8, m8, ej8, ek8, hX8, fC8, fM8⟩
                  · have hp8 := hp8 (by decide)
                    have hp8n := hR8.2.1
                    rw [ej8, Option.bind_some, Option.bind_some]
                    simp only []
                    rw [ek8, Option.bind_some] at eb
                    simp only [] at eb
                    rw [ite_self] at eb
                    have rows : ∀ j r, 39 < j → j < 48 → (j ≠ 44 ∨ r ≠ u) → m8.2.1 j r = m4.2.1 j r := fun j r a b c => by
                      rw [g28]
                      simp only [uA_21]
                      by_cases c1 : j = 44
                      · rw [if_pos c1, upd_j, nI_cl (by omega), if_neg (by omega), fM7.2.1 j (by omega), g2]
                      · rw [if_neg c1, fM7.2.1 j (by omega), g2]
                    have r844 : m8.2.1 44 u = nI f := by
                      rw [g28]
                      simp only [uA_21, if_true, upd_j, nI_cl (show u < 2 ^ 31 by omega)]
                    have m834 : m8.1 34 = nI (u + 1) := by rw [(fM8 0).1 34 (by decide)]; show m7.1 34 = _; rw [fM7.1 34 (by decide)]; exact m534
                    obtain ⟨r9, c9, e9, hO⟩ := partsT hn ih (hTd kkp) (rP := rP) (m := m) (fo := fo) (N := N) (u := u) (k := k) (f := f) (y0 := rf) hR8 (by rw [fC8.1 8 (by decide), fC7.1 8 (by decide)]; exact c58) m834 hNu (by omega) hm (by omega) (by omega) hk (by rw [rows 45 o (by decide) (by decide) (Or.inl (by decide))]; exact r4.1) (by rw [rows 46 o (by decide) (by decide) (Or.inl (by decide))]; exact r4.2.1) (by rw [rows 47 o (by decide) (by decide) (Or.inl (by decide))]; exact r4.2.2.1) (by rw [rows 40 u (by decide) (by decide) (Or.inl (by decide))]; exact r4.2.2.2.1) (by rw [rows 41 u (by decide) (by decide) (Or.inl (by decide))]; exact r4.2.2.2.2) (fun _ => ⟨hf, hrf, r844⟩)
                    refine ⟨r9, c9, e9, hO.tr hG7 ((fC6.tr (fC7.ft N)).tr (fC8.ft N)) (((fM6.tr (fM7.ft o u)).tr fMu).tr ((fM8 0).ft o u)) (by omega) (by omega) (fun res hD => ?_)⟩
                    exact dn_open hk h0S hR8.1.2.2.2.2.2.2 (by omega) hu eb (by rw [rows 45 o (by decide) (by decide) (Or.inl (by decide))]; exact r4.1) (by rw [rows 40 u (by decide) (by decide) (Or.inl (by decide))]; exact r4.2.2.2.1) (by rw [rows 47 o (by decide) (by decide) (Or.inl (by decide))]; exact r4.2.2.1) hD
                  · rw [ej8, Option.bind_some, Option.bind_some]
                    simp only []
                    rw [ek8, Option.bind_some] at eb
                    simp only [] at eb
                    rw [ite_self] at eb
                    obtain ⟨r9, c9, e9, hX9, fX9⟩ := dead87 (n := n) (rT0 := rT0) (rP := rP) (hTd kkp) hk rf m hX8
                    exact ⟨r9, c9, e9, Or.inr ⟨D', m8, hX9, hG7, (((fC6.lo (Nat.zero_le _)).tr (fC7.ft 0)).tr (fC8.ft 0)).tr fX9, (((fM6.lo (Nat.zero_le _) (Nat.zero_le _)).tr (fM7.ft 0 0)).tr (fMu.lo (Nat.zero_le _) (Nat.zero_le _))).tr ((fM8 0).ft 0 0), dn_fault h0S hX8.m0 eb⟩⟩
                · rw [expect_deadC hX7.c0 (by decide), Option.bind_some, Option.bind_some]
                  simp only []
                  have q45 : m7.2.1 45 o = nI u := by rw [fM7.2.1 45 (by decide), g2]; exact r4.1
                  rw [em7, Option.bind_some] at eb
                  simp only [] at eb
                  rw [inB_nI (show o < 60 by omega) (by omega), if_pos rfl, nI_cl (by omega), q45, inB_nI hu (by omega), if_pos rfl, if_neg (show ¬ (uA m7 44 (nI u) (-1)).1 10 = 0 from hX7.m0)] at eb
                  have hX7' : RX D' c7 (uA m7 44 (nI u) (-1)) := hX7.mv rfl rfl rfl rfl (fun _ _ _ => rfl) rfl rfl rfl rfl rfl (fun j hj => by simp only [uA_21]; rw [if_neg (by omega)])
                  obtain ⟨r9, c9, e9, hX9, fX9⟩ := dead87 (n := n) (rT0 := rT0) (rP := rP) (hTd kkp) hk rf m hX7'
                  exact ⟨r9, c9, e9, Or.inr ⟨D', _, hX9, hG7, ((fC6.lo (Nat.zero_le _)).tr (fC7.ft 0)).tr fX9, ((fM6.lo (Nat.zero_le _) (Nat.zero_le _)).tr (fM7.ft 0 0)).tr (FTM.ar (e := u) _ 44 _ _ (Or.inl ⟨by decide, by decide, Nat.zero_le u⟩) rfl (by omega)), dn_fault h0S hX7'.m0 eb⟩⟩
              · have n76 : ¬ nI k = (76 : Int32) := fun e => c76 (nI_inj (b := 76) (by omega) (by omega) e)
                rw [if_neg n76]
                rw [if_neg n76] at eb
                obtain ⟨r9, c9, e9, hO⟩ := partsT hn ih (hTd kkp) (rP := rP) (m := m) (fo := fo) (N := N) (u := u) (k := k) (f := 0) (y0 := 0) hR5 c58 m534 hNu (by omega) hm (by omega) (by omega) hk (by rw [g2]; exact r4.1) (by rw [g2]; exact r4.2.1) (by rw [g2]; exact r4.2.2.1) (by rw [g2]; exact r4.2.2.2.1) (by rw [g2]; exact r4.2.2.2.2) (fun e => absurd e c76)
                refine ⟨r9, c9, e9, hO.tr (Gd.rf _) fC6 fM6 (by omega) (by omega) (fun res hD => ?_)⟩
                exact dn_open hk h0S hR5.1.2.2.2.2.2.2 (by omega) hu eb (by rw [g2]; exact r4.1) (by rw [g2]; exact r4.2.2.2.1) (by rw [g2]; exact r4.2.2.1) hD
            · rw [ej, Option.bind_some]
              have eb := ebeg2 _ ek
              rw [if_pos (rfl : (0 : Int32) = 0)] at eb
              have fX : FTC 0 sC c5 := (fCc.lo (Nat.zero_le _)).tr (fC5.ft 0)
              have fXM : FTM 0 0 sM m5 := (fM4.lo (Nat.zero_le _) (Nat.zero_le _)).tr ((fM5 0).ft 0 0)
              by_cases c76 : nI k = (76 : Int32)
              · rw [if_pos c76]
                unfold f_X3_readLambdaFormula
                rw [deadF hn hX5.c0, Option.bind_some]
                simp only []
                rw [expect_deadC hX5.c0 (by decide), Option.bind_some, Option.bind_some]
                obtain ⟨r9, c9, e9, hX9, fX9⟩ := dead87 (n := n) (rT0 := rT0) (rP := rP) (hTd kkp) hk (-1) m hX5
                exact ⟨r9, c9, e9, Or.inr ⟨D, m5, hX9, Gd.rf _, fX.tr fX9, fXM, dn_fault h0S hX5.m0 eb⟩⟩
              · rw [if_neg c76]
                obtain ⟨r9, c9, e9, hX9, fX9⟩ := dead87 (n := n) (rT0 := rT0) (rP := rP) (hTd kkp) hk 0 m hX5
                exact ⟨r9, c9, e9, Or.inr ⟨D, m5, hX9, Gd.rf _, fX.tr fX9, fXM, dn_fault h0S hX5.m0 eb⟩⟩
          · refine ⟨-1, _, ?_, Or.inr ⟨D, _, hX, Gd.rf _, (fC.tr (FRC.fl _ _ _)).ft 0, ((fM 0).tr (FRM.fl _ _ _ _)).ft 0 0, dn_fault h0S hX.m0 (x := -1) ?_⟩⟩
            · show g_X3_readTerm n rT0 _ sC (nI m) = _
              rw [ecl _ eo, if_pos rfl]
            · rw [ebeg]
              unfold f_X12_beginTerm_137
              rw [if_neg (show ¬ (1 : Int32) = 0 by decide), en, Option.bind_some]
              simp only [if_true]
        · have hno : ∀ k, k ∈ LTR → ¬ (tkX X (skX X p)).1 = nI k := fun k hk e => kl ⟨k, hk, e⟩
          have hnoM : ∀ k, k ∈ LTR → ¬ (tkX X (skX X p)).2.1 = nI k := fun k hk e => by
            have : ∀ k, k ∈ LTR → nI k ∈ [(40 : Int32), 41, 38, 124, 126, 44, 84, 76, 65, 80, 70, 83, 73, 74, 67, 88] := by decide
            exact hno k hk ((tkp_s _ hmem (nI k) (this k hk)).mpr e)
          have hX : RX D (uF (uF k1 10 2) 11 (nI (skX X p))) (uF (uF m1 10 2) 11 (nI (skX X p))) := HS.fault hB.1 (c := 2) (by decide) (by decide) rfl
          refine ⟨-1, uF (uF k1 10 2) 11 (nI (skX X p)), ?_, Or.inr ⟨D, _, hX, Gd.rf _, (fC.tr (FRC.fl _ _ _)).ft 0, ((fM 0).tr (FRM.fl _ _ _ _)).ft 0 0, dn_fault h0S hX.m0 (x := -1) ?_⟩⟩
          · show g_X3_readTerm n rT0 _ sC (nI m) = _
            unfold g_X3_readTerm f_X8_start f_X3_fail
            rw [ec, Option.bind_some]
            simp only []
            rw [if_neg k110, if_neg k84, parts_none hno, Option.bind_some]
            simp only [if_true]
            rw [Option.bind_some]
            simp only []
            rw [if_pos hc0, Option.bind_some, hT.2.2.2.2.2.1]
          · rw [begin_none em h0 kM84 kM257 hnoM]
            unfold f_X12_beginTerm_137 f_X12_fail
            rw [if_pos (rfl : (0 : Int32) = 0), if_pos h0, Option.bind_some, hT.2.2.2.2.2.2.2.2.1]
  · refine ⟨-1, k1, ?_, Or.inr ⟨D, m1, hX, Gd.rf _, fC.ft 0, (fM 0).ft 0 0, dn_fault h0S hX.m0 (x := -1) ?_⟩⟩
    · show g_X3_readTerm n rT0 _ sC (nI m) = _
      unfold g_X3_readTerm f_X8_start
      rw [ec, Option.bind_some]
      simp only []
      rw [if_neg (by decide), if_neg (by decide), parts_none (by decide), Option.bind_some]
      simp only [if_true]
      rw [Option.bind_some]
      simp only []
      rw [fail_deadC hX.c0, Option.bind_some]
    · unfold f_X12_beginTerm
      rw [em, Option.bind_some]
      simp only []
      rw [if_neg hX.m0]
/-- terms, by the depth of the calls -/
theorem lvT_all {n : Nat} (hn : 100000 ≤ n) : ∀ k, LvT n k (rec_RT n (2 * k)).1 := by
  intro k
  induction k with
  | zero =>
    intro X D p o m fo N u sC sM h hN hU hNu h2u hm hkk hfo
    have := h.1.2.2.1.1
    omega
  | succ k ih =>
    have := lvT hn (rT0 := (rec_RT n (2 * k + 1)).1) (rP := (rec_RT n (2 * k)).2) ih (fun hk s x h0 => by
      obtain ⟨q, rfl⟩ : ∃ q, k = q + 1 := ⟨k - 1, by omega⟩
      exact deadT h0)
    exact this
