/-! ===== one of LEFT is reduced: either, true, both ===== -/
theorem RC.keep {s s' : StT} {d z g : Nat} {fm tc : Nat → Nat} (h : RC s d z fm tc g) (e : ∀ j, 20 < j → j < 25 → s'.2.1 j = s.2.1 j) : RC s' d z fm tc g := ⟨by rw [e 23 (by decide) (by decide)]; exact h.1, h.2.1, by rw [e 24 (by decide) (by decide)]; exact h.2.2.1, fun i hi => by rw [e 21 (by decide) (by decide), e 22 (by decide) (by decide)]; exact h.2.2.2 i hi⟩
theorem RM.keep {s s' : StT} {d z g ar : Nat} {fm tr md : Nat → Nat} (h : RM s d z fm tr md g ar) (e : ∀ j, 18 < j → j < 25 → s'.2.1 j = s.2.1 j) : RM s' d z fm tr md g ar := ⟨by rw [e 22 (by decide) (by decide)]; exact h.1, h.2.1, by rw [e 23 (by decide) (by decide)]; exact h.2.2.1, by rw [e 24 (by decide) (by decide)]; exact h.2.2.2.1, fun i hi => by rw [e 19 (by decide) (by decide), e 20 (by decide) (by decide), e 21 (by decide) (by decide)]; exact h.2.2.2.2 i hi⟩
/-- what the class's reduce begins with -/
theorem redC {n : Nat} (hn : 100000 ≤ n) {D : HD} {Lv : Nat → LD} {d NC NR nC nM mo i : Nat} {sC sM : StT} (h : PRE D Lv d NC NR nC nM mo sC sM) (hi : i < zz (Lv d).1) : ∃ s2, f_X6_follow n sC (nI d) (nI i) (nI (gR (Lv d).1)) = some s2 ∧ LWC (d + 1) sC s2 ∧ s2.1 = sC.1 ∧ RC s2 (d + 1) (nz (zz (Lv d).1) i) (fun j => fmR (Lv d).1 (skp i j)) (fun j => tcR (Lv d).1 (skp i j)) (gR (Lv d).1) ∧ CFt s2 D.1 ∧
    f_X5_reduce n sC (nI d) (nI i) = (let f := nI (fmR (Lv d).1 i); let k := nI (D.1.2.1 (fmR (Lv d).1 i)); let t := nI (tcR (Lv d).1 i); if k = 3 then ((f_X1_firstOf_F0 n s2 f).bind fun q88 => ((f_X7_one_T1 n q88.2 (70 : Int32) t).bind fun q99 => ((f_X6_comes n q99.2 (nI (d + 1)) q88.1 q99.1).bind fun q102 => (if q102.1 = 0 then ((f_X5_waitIf n q102.2 (0 : Int32) (nI d) (0 : Int32)).bind fun q146 => (some (q146.1, q146.2))) else ((f_X1_secondOf_F0 n q102.2 f).bind fun q119 => ((f_X7_one_T1 n q119.2 (83 : Int32) t).bind fun q130 => ((f_X6_comes n q130.2 (nI (d + 1)) q119.1 q130.1).bind fun q133 => (if q133.1 = 0 then ((f_X5_waitIf n q133.2 (0 : Int32) (nI d) (0 : Int32)).bind fun q146 => (some (q146.1, q146.2))) else ((f_X5_waitIf n q133.2 (1 : Int32) (nI d) (0 : Int32)).bind fun q146 => (some (q146.1, q146.2))))))))))) else (if k = 4 then ((f_X5_keep_43 n s2 (nI d) (nI i)).bind fun q156 => ((f_X7_hypothesis_T1 n q156 (0 : Int32)).bind fun q169 => ((f_X5_keep_45 n q169.2 (nI d) q169.1).bind fun q172 => ((f_X1_firstOf_F0 n q172 f).bind fun q187 => ((f_X5_kept_45 n q187.2 (nI d)).bind fun q195 => ((f_X6_comes n q195.2 (nI (d + 1)) q187.1 q195.1).bind fun q198 => ((f_X5_waitIf n q198.2 q198.1 (nI d) (4 : Int32)).bind fun q203 => (some (q203.1, q203.2))))))))) else (if k = 5 then ((f_X5_reduceImplication n s2 (nI d) f t).bind fun q212 => (some (q212.1, q212.2))) else ((f_X5_waitFor n s2 (nI d) (0 : Int32)).bind fun q219 => (some (q219.1, q219.2)))))) := by
  have hS := h.1
  have hRR := h.2.2.1
  have hd := h.2.2.2.2.2.2.1
  have hz := hRR.1.2.1
  have hf := (hRR.2.2.2.2.1 i hi).1
  obtain ⟨s2, c1, c2, c3, c4⟩ := followC hn (g' := gR (Lv d).1) hRR.1 (by omega) (at_w hz hi)
  have hC2 : CFt s2 D.1 := CFt.ag (by rw [c3]) (by rw [c2.2.1 2 (by decide)]) (by rw [c2.2.1 3 (by decide)]) (by rw [c2.2.1 4 (by decide)]) (by rw [c2.2.1 5 (by decide)]) (by rw [c2.2.1 6 (by decide)]) hS.1.1
  refine ⟨s2, c1, c2, c3, c4, hC2, ?_⟩
  unfold f_X5_reduce
  rw [(fAtC hRR.1 (by omega) hi).1, Option.bind_some]
  simp only []
  rw [(fAtC hRR.1 (by omega) hi).2, Option.bind_some]
  simp only []
  rw [goalC hRR.1 (by omega), Option.bind_some]
  simp only []
  rw [c1, Option.bind_some, kindOfF0 hC2 hf, Option.bind_some]
  simp only [nI_1]
/-- what the reference's going begins with, where it is no either -/
theorem goM {n : Nat} (hn : 100000 ≤ n) {D : HD} {Lv : Nat → LD} {d NC NR nC nM mo i : Nat} {sC sM : StT} (h : PRE D Lv d NC NR nC nM mo sC sM) (hi : i < zz (Lv d).1) (h4 : D.1.2.1 (fmR (Lv d).1 i) ≠ 4) : ∃ m2, f_X12_within n sM (nI d) (nI i) (nI (gR (Lv d).1)) (nI (aR (Lv d).1)) = some m2 ∧ LWM (d + 1) sM m2 ∧ m2.1 = sM.1 ∧ RM m2 (d + 1) (nz (zz (Lv d).1) i) (fun j => fmR (Lv d).1 (skp i j)) (fun j => trR (Lv d).1 (skp i j)) (fun j => mdR (Lv d).1 (skp i j)) (gR (Lv d).1) (aR (Lv d).1) ∧ MF (uA m2 25 (nI d) 1) D.1 ∧
    f_X12_going n sM (nI d) (nI i) = (let S := uA m2 25 (nI d) 1; let f := nI (fmR (Lv d).1 i); let a := nI (aR (Lv d).1); if nI (D.1.2.1 (fmR (Lv d).1 i)) = (3 : Int32) then ((f_X12_termOf n S (nI d) (nI i)).bind fun q136 => ((f_X12_term n q136.2 (70 : Int32) 0 q136.1 (-1) (-1)).bind fun q159 => ((f_X12_comes n q159.2 (nI (d + 1)) (q136.2.2.1 1 (fmR (Lv d).1 i)) q159.1 a).bind fun q163 => (if q163.1 = 0 then (f_X12_going_231 n q163.2 0) else ((f_X12_term n q163.2 (83 : Int32) 0 q136.1 (-1) (-1)).bind fun q187 => ((f_X12_comes n q187.2 (nI (d + 1)) (q163.2.2.1 2 (fmR (Lv d).1 i)) q187.1 a).bind fun q191 => (if q191.1 = 0 then (f_X12_going_231 n q191.2 0) else (f_X12_going_231 n q191.2 1)))))))) else (if nI (D.1.2.1 (fmR (Lv d).1 i)) = (5 : Int32) then ((f_X12_leading n S (nI d) (nI (d + 1)) (nI i) f a).bind fun q226 => (f_X12_going_231 n q226.2 q226.1)) else (f_X12_going_231 n S 1))) := by
  have hS := h.1
  have hRR := h.2.2.1
  have hd := h.2.2.2.2.2.2.1
  have hz := hRR.1.2.1
  have hf := (hRR.2.2.2.2.1 i hi).1
  have hw := hS.1.2.2.1
  have hkb := hw.bd hf
  have hl := hw.2.1
  have hm := hS.1.2.1.2 _ hf
  have hr := hRR.2.1.2.2.2.2 i hi
  obtain ⟨m2, c1, c2, c3, c4⟩ := withinM hn (g' := gR (Lv d).1) (ar' := aR (Lv d).1) hRR.2.1 (by omega) (at_w hz hi)
  have hM2 : MF (uA m2 25 (nI d) 1) D.1 := ⟨by show m2.1 0 = _; rw [c3]; exact hS.1.2.1.1, fun f hf => by
    simp only [uA_21]; rw [if_neg (by decide), if_neg (by decide), if_neg (by decide), c2.2.1 0 (by decide), c2.2.1 1 (by decide), c2.2.1 2 (by decide)]; exact hS.1.2.1.2 f hf⟩
  refine ⟨m2, c1, c2, c3, c4, hM2, ?_⟩
  have hk2 := (hM2.2 _ hf).1
  unfold f_X12_going
  rw [inB_nI (show d < 201 by omega) (by omega), if_pos rfl, n60b, inB_nI (show 60 * d + i < 12060 by omega) (by omega), if_pos rfl, nI_cl (show 60 * d + i < 2 ^ 31 by omega), hr.1, inB_nI (show fmR (Lv d).1 i < 4200 by omega) (by omega), if_pos rfl, nI_cl (show fmR (Lv d).1 i < 2 ^ 31 by omega), hm.1, if_neg (show ¬ nI (D.1.2.1 (fmR (Lv d).1 i)) = (4 : Int32) from fun e => h4 (nI_inj (b := 4) (by omega) (by omega) e)), if_pos rfl, nI_cl (show d < 2 ^ 31 by omega), hRR.2.1.2.2.1, hRR.2.1.2.2.2.1, c1, Option.bind_some, if_pos rfl, if_pos rfl, hk2, nI_1]
  simp only [if_true]
theorem rule_true {n : Nat} (hn : 100000 ≤ n) {D : HD} {Lv : Nat → LD} {d NC NR nC nM mo i : Nat} {sC sM : StT} (h : PRE D Lv d NC NR nC nM mo sC sM) (hi : i < zz (Lv d).1) (h1 : D.1.2.1 (fmR (Lv d).1 i) = 1) : OUT n D Lv d NC NR nC nM sC sM (f_X5_reduce n sC (nI d) (nI i)) (f_X12_going n sM (nI d) (nI i)) := by
  have hS := h.1
  have hRR := h.2.2.1
  have hd := h.2.2.2.2.2.2.1
  obtain ⟨s2, c1, c2, c3, c4, c5, ec⟩ := redC hn h hi
  obtain ⟨m2, d1, d2, d3, d4, d5, em⟩ := goM hn h hi (by omega)
  rw [ec, em]
  simp only [h1]
  rw [if_neg (show ¬ nI 1 = (3 : Int32) by decide), if_neg (show ¬ nI 1 = (4 : Int32) by decide), if_neg (show ¬ nI 1 = (5 : Int32) by decide), if_neg (show ¬ nI 1 = (3 : Int32) by decide), if_neg (show ¬ nI 1 = (5 : Int32) by decide), (waitC hd 0).1, Option.bind_some]
  unfold f_X12_going_231
  rw [if_neg (by decide), bind_eta]
  have p := ((PRG.start (d := d) hS).lw c2 d2).mc 25 (by decide) (by omega) 1
  have hR1 := hRR.gr (Nat.lt_succ_self d) p.2.2.1.1 p.2.2.1.2 (Nat.le_refl _) (Nat.le_refl _) (Nat.le_refl _)
  have hR2 := hR1.next (S' := sR (Lv d).1) c4 (d4.keep (fun j x y => by simp only [uA_21]; rw [if_neg (by omega)])) hRR.2.2.1 (Or.inl rfl) (fun _ _ => rfl)
  exact same_fin (w := i) h p (by rw [c3]; exact hS.2.2.2.2.2.1) (by show m2.1 22 = _; rw [d3]; exact hS.2.2.2.2.2.2.1) hS.2.2.2.2.2.2.2 (by omega) (by omega) (by simp only [uA_21, if_true, upd_j, nI_cl (show d < 2 ^ 31 by omega)]; rfl) hR2 (Or.inr (by rw [h1]; decide)) rfl (fun _ _ => rfl) (Nat.le_refl _) (fun _ _ => rfl)
theorem rule_either {n : Nat} (hn : 100000 ≤ n) {D : HD} {Lv : Nat → LD} {d NC NR nC nM mo i : Nat} {sC sM : StT} (h : PRE D Lv d NC NR nC nM mo sC sM) (hi : i < zz (Lv d).1) (h4 : D.1.2.1 (fmR (Lv d).1 i) = 4) : OUT n D Lv d NC NR nC nM sC sM (f_X5_reduce n sC (nI d) (nI i)) (f_X12_going n sM (nI d) (nI i)) := by
  have hS := h.1
  have hRR := h.2.2.1
  have hd := h.2.2.2.2.2.2.1
  have hNC := h.2.2.2.2.2.2.2.1
  have hz := hRR.1.2.1
  have hf := (hRR.2.2.2.2.1 i hi).1
  have hw := hS.1.2.2.1
  have hl := hw.2.1
  have hlo := hw.lo hf (by omega)
  have hm := hS.1.2.1.2 _ hf
  have hr := hRR.2.1.2.2.2.2 i hi
  obtain ⟨s2, c1, c2, c3, c4, c5, ec⟩ := redC hn h hi
  have p1 := (PRG.start (d := d) hS).mc 26 (by decide) (by omega) (nI i)
  have hRm : RM (uA sM 26 (nI d) (nI i)) d _ _ _ _ _ _ := hRR.2.1.keep (fun j x y => by simp only [uA_21]; rw [if_neg (by omega)])
  obtain ⟨m2, d1, d2, d3, d4⟩ := withinM hn (g' := gR (Lv d).1) (ar' := aR (Lv d).1 + 1) hRm (by omega) (at_w hz hi)
  have p2 := (p1.lw c2 d2).cc 32 (by decide) (by omega) (nI i)
  have gc := aT1_fr (s := uA s2 32 (nI d) (nI i)) (N := NC) (by omega) 104 0 0 0 (-1)
  have rc := aT1_rows (s := uA s2 32 (nI d) (nI i)) (N := NC) (by omega) 104 0 0 0 (-1)
  generalize hs0 : aT1 (uA s2 32 (nI d) (nI i)) NC 104 0 0 0 (-1) = s0 at gc rc
  have s016 : s0.1 16 = nI (NC + 1) := by rw [← hs0]; rfl
  have p3 := (p2.c1 gc s016 (by omega)).cc 34 (by decide) (by omega) (nI NC)
  have hR1 := hRR.gr (Nat.lt_succ_self d) p3.2.2.1.1 p3.2.2.1.2 (Nat.le_refl _) (Nat.le_succ NC) (Nat.le_refl _)
  have k16 : (uA s0 34 (nI d) (nI NC)).2.1 16 NC = 104 := by simp only [uA_21, if_neg (show ¬ (16 : Nat) = 34 by decide)]; exact rc.1
  have uN : updN (sR (Lv d).1) (aR (Lv d).1) NC (aR (Lv d).1) = NC := by unfold updN; rw [if_pos rfl]
  have hR2 := hR1.next (S' := updN (sR (Lv d).1) (aR (Lv d).1) NC) (c4.keep (fun j x y => by simp only [uA_21]; rw [if_neg (by omega), gc.2.1 j (by omega)]; simp only [uA_21]; rw [if_neg (by omega)])) d4 hRR.2.2.1 (Or.inr ⟨rfl, by rw [uN]; exact Nat.lt_succ_self _, by rw [uN]; exact k16, fun z hz2 => by rw [uN]; exact (hRR.2.2.2.2.1 z hz2).2.2.1⟩) (fun k hk => by unfold updN; rw [if_neg (by omega)])
  have c34 : (uA s0 34 (nI d) (nI NC)).2.1 34 d = nI NC := by simp only [uA_21, if_true, upd_j, nI_cl (show d < 2 ^ 31 by omega)]
  obtain ⟨m3, s3, m4, ok, e7, e8, e9, eO⟩ := hyp_core hn (q := (4, i, 0, 0, NC)) (w := i) (f := D.1.2.2.1 (fmR (Lv d).1 i)) (b := NC) (mo1 := mo) h p3 (by show s0.1 17 = _; rw [gc.1 17 (by decide)]; show s2.1 17 = _; rw [c3]; exact hS.2.2.2.2.2.1) (by rw [d3]; exact hS.2.2.2.2.2.2.1) hS.2.2.2.2.2.2.2 hR2 (by omega) (by omega) (Or.inr (by rw [h4]; decide)) (by omega) (Nat.lt_succ_self _) k16 c34 ⟨fun k hk => by have := (hRR.2.2.2.2.2 k hk).1; omega, fun z hz2 => (hRR.2.2.2.2.1 z hz2).2.2.1⟩ (show 4 ∈ [1, 4, 5] by decide) rfl (fun x => absurd (show (4 : Nat) = 1 from x) (by decide)) (fun _ => ⟨by
      simp only [uA_21, if_neg (show ¬ (32 : Nat) = 34 by decide)]; rw [gc.2.1 32 (by decide)]; simp only [uA_21, if_true, upd_j, nI_cl (show d < 2 ^ 31 by omega)], by
      rw [d2.2.1 26 (by decide)]; simp only [uA_21, if_true, upd_j, nI_cl (show d < 2 ^ 31 by omega)], hi, h4⟩) (fun x => absurd (show (4 : Nat) = 5 from x) (by decide))
  have hC3 := p3.2.2.2.2.2.1.1
  have eH : f_X7_hypothesis_T1 n (uA s2 32 (nI d) (nI i)) 0 = some (nI NC, s0) := by
    unfold f_X7_hypothesis_T1; rw [addT1 (by show s2.1 16 = _; rw [c3]; exact hS.2.1) (by omega), Option.bind_some, hs0]
  have eC : f_X5_reduce n sC (nI d) (nI i) = if ok = true then some (2, uA s3 31 (nI d) (nI 4)) else some (-7, s3) := by
    rw [ec]
    simp only [h4]
    rw [if_neg (show ¬ nI 4 = (3 : Int32) by decide), if_pos (show nI 4 = (4 : Int32) by decide), (keep42 hd (nI i)).2.1, Option.bind_some, eH, Option.bind_some]
    simp only []
    rw [(keep42 hd (nI NC)).2.2.2, Option.bind_some, firstOfF0 hC3 hf, Option.bind_some]
    simp only []
    rw [(kept42 hd).2.2.2, Option.bind_some]
    simp only []
    rw [c34, e8, Option.bind_some]
    simp only []
    cases ok with
    | true => rw [show mI true = (1 : Int32) from rfl, (waitC hd _).2.2, Option.bind_some]; rfl
    | false => rw [show mI false = (0 : Int32) from rfl, (waitC hd _).2.1, Option.bind_some]; rfl
  have k1 : (uA m2 25 (nI d) (5 : Int32)).2.1 1 (fmR (Lv d).1 i) = nI (D.1.2.2.1 (fmR (Lv d).1 i)) := by
    simp only [uA_21, if_neg (show ¬ (1 : Nat) = 25 by decide)]; rw [d2.2.1 1 (by decide)]; simp only [uA_21, if_neg (show ¬ (1 : Nat) = 26 by decide)]; exact hm.2.1
  have eM : f_X12_going n sM (nI d) (nI i) = if ok = true then f_X12_begin n m4 else some (3, m4) := by
    unfold f_X12_going
    rw [inB_nI (show d < 201 by omega) (by omega), if_pos rfl, n60b, inB_nI (show 60 * d + i < 12060 by omega) (by omega), if_pos rfl, nI_cl (show 60 * d + i < 2 ^ 31 by omega), hr.1, inB_nI (show fmR (Lv d).1 i < 4200 by omega) (by omega), if_pos rfl, nI_cl (show fmR (Lv d).1 i < 2 ^ 31 by omega), hm.1, h4, if_pos (show nI 4 = (4 : Int32) by decide), if_pos rfl, if_pos rfl, nI_cl (show d < 2 ^ 31 by omega), show (uA sM 26 (nI d) (nI i)).2.1 23 d = nI (gR (Lv d).1) from hRm.2.2.1, hRR.2.1.2.2.2.1, nI_1, d1, Option.bind_some, if_pos rfl, if_pos rfl, k1, show (uA m2 25 (nI d) (5 : Int32)) = uA m2 25 (nI d) (nI (4 + 1)) from rfl, e7, Option.bind_some]
    simp only []
    rw [nI_1, e9, Option.bind_some]
    simp only [bind_eta]
    cases ok <;> rfl
  rw [eC, eM]
  exact eO
