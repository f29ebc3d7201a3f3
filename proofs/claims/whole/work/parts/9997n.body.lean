/-! ===== the rule for a goal that leads ===== -/
theorem rule_body {n : Nat} (hn : 100000 ≤ n) {D : HD} {Lv : Nat → LD} {d NC NR nC nM mo : Nat} {sC sM : StT} (h : PRE D Lv d NC NR nC nM mo sC sM) (k5 : D.1.2.1 (gR (Lv d).1) = 5) :
    OUT n D Lv d NC NR nC nM sC sM (f_X5_beginBody n sC (nI d) (nI (gR (Lv d).1)))
      ((f_X12_within n sM (nI d) (-1) (nI (D.1.2.2.2 (gR (Lv d).1))) (nI (aR (Lv d).1 + 1))).bind fun q118 => ((f_X12_hypothesis n (uA q118 25 (nI d) (2 : Int32)) (nI (aR (Lv d).1))).bind fun q141 => ((f_X12_comes n q141.2 (nI (d + 1)) (nI (D.1.2.2.1 (gR (Lv d).1))) q141.1 (nI (aR (Lv d).1 + 1))).bind fun q147 => (if q147.1 = 0 then (some ((3 : Int32), q147.2)) else (f_X12_begin n q147.2))))) := by
  have hS := h.1
  have hRR := h.2.2.1
  have hd := h.2.2.2.2.2.2.1
  have hNC := h.2.2.2.2.2.2.2.1
  have hNR := h.2.2.2.2.2.2.2.2.1
  have hz := hRR.1.2.1
  have hw := hS.1.2.2.1
  have hgl := hRR.2.2.1
  have hlo := hw.lo hgl (by omega)
  have gc := aT1_fr (s := sC) (N := NC) (by omega) 104 0 0 0 (-1)
  have rc := aT1_rows (s := sC) (N := NC) (by omega) 104 0 0 0 (-1)
  generalize hs0 : aT1 sC NC 104 0 0 0 (-1) = s0 at gc rc
  have s016 : s0.1 16 = nI (NC + 1) := by rw [← hs0]; rfl
  have p1 := ((PRG.start (d := d) hS).c1 gc s016 (by omega)).cc 34 (by decide) (by omega) (nI NC)
  have eH : f_X7_hypothesis_T1 n sC 0 = some (nI NC, s0) := by
    unfold f_X7_hypothesis_T1; rw [addT1 hS.2.1 (by omega), Option.bind_some, hs0]
  have hR1 : RR (uA s0 34 (nI d) (nI NC)) sM D.1.1 (NC + 1) NR d (Lv d).1 := hRR.gr (Nat.lt_succ_self _) ((gc.kg _).tr (KGC.uA (by decide)) (Nat.le_refl NC)) (KGM.rf _ _ _) (Nat.le_refl _) (by omega) (Nat.le_refl _)
  have c34 : (uA s0 34 (nI d) (nI NC)).2.1 34 d = nI NC := by simp only [uA_21, if_true, upd_j, nI_cl (show d < 2 ^ 31 by omega)]
  have hH1 := p1.2.2.2.2.2.1
  obtain ⟨s2, m2, m3, s3, m4, ok, e1, e2, e3, e4, e5, e6, e7, e8, e9, eO⟩ := lay_hyp hn (q := (1, 0, 0, 0, NC)) (w := 100) (wI := -1) (g' := D.1.2.2.2 (gR (Lv d).1)) (f := D.1.2.2.1 (gR (Lv d).1)) (b := NC) (mo1 := mo) h p1 (by show s0.1 17 = _; rw [gc.1 17 (by decide)]; exact hS.2.2.2.2.2.1) hS.2.2.2.2.2.2.1 hS.2.2.2.2.2.2.2 hR1 (by omega) (by omega) (no_w hz) (Or.inl (by omega)) (by omega) (by omega) (Nat.lt_succ_self _) (by simp only [uA_21, if_neg (show ¬ (16 : Nat) = 34 by decide)]; exact rc.1) c34 ⟨fun k hk => by have := (hRR.2.2.2.2.2 k hk).1; omega, fun i hi => (hRR.2.2.2.2.1 i hi).2.2.1⟩ (show 1 ∈ [1, 4, 5] by decide) rfl (fun _ => k5) (fun x => by simp at x) (fun x => by simp at x)
  have hC2 : CFt s2 D.1 := CFt.ag (by rw [e5]) (by rw [e3.2.1 2 (by decide)]) (by rw [e3.2.1 3 (by decide)]) (by rw [e3.2.1 4 (by decide)]) (by rw [e3.2.1 5 (by decide)]) (by rw [e3.2.1 6 (by decide)]) hH1.1
  have eC : f_X5_beginBody n sC (nI d) (nI (gR (Lv d).1)) = if ok = true then some (2, uA s3 31 (nI d) (nI 1)) else some (-7, s3) := by
    unfold f_X5_beginBody
    rw [eH, Option.bind_some]
    simp only []
    rw [(keep42 hd (nI NC)).2.2.2, Option.bind_some, secondOfF0 hH1.1 hgl, Option.bind_some]
    simp only []
    rw [e1, Option.bind_some, firstOfF0 hC2 hgl, Option.bind_some]
    simp only []
    rw [(kept42 hd).2.2.2, Option.bind_some]
    simp only []
    rw [e3.2.1 34 (by decide), c34, nI_1, e8, Option.bind_some]
    simp only []
    cases ok with
    | true => rw [show mI true = (1 : Int32) from rfl, (waitC hd _).2.2, Option.bind_some]; rfl
    | false => rw [show mI false = (0 : Int32) from rfl, (waitC hd _).2.1, Option.bind_some]; rfl
  have eM : ((f_X12_within n sM (nI d) (-1) (nI (D.1.2.2.2 (gR (Lv d).1))) (nI (aR (Lv d).1 + 1))).bind fun q118 => ((f_X12_hypothesis n (uA q118 25 (nI d) (2 : Int32)) (nI (aR (Lv d).1))).bind fun q141 => ((f_X12_comes n q141.2 (nI (d + 1)) (nI (D.1.2.2.1 (gR (Lv d).1))) q141.1 (nI (aR (Lv d).1 + 1))).bind fun q147 => (if q147.1 = 0 then (some ((3 : Int32), q147.2)) else (f_X12_begin n q147.2))))) = if ok = true then f_X12_begin n m4 else some (3, m4) := by
    rw [e2, Option.bind_some, show (uA m2 25 (nI d) (2 : Int32)) = uA m2 25 (nI d) (nI (1 + 1)) from rfl, e7, Option.bind_some]
    simp only []
    rw [e9, Option.bind_some]
    simp only []
    cases ok <;> rfl
  rw [eC, eM]
  exact eO
