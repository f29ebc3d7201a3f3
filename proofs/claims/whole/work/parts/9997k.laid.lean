/-! ===== a premise is laid ===== -/
theorem FLC.lb {d N b b' : Nat} {s s' : StT} (h : FLC d N b' s s') (hb : b ≤ b') : FLC d N b s s' := ⟨h.1, h.2.1, fun j r x y z => h.2.2 j r x y (by omega)⟩
theorem FLM.lb {d N b b' : Nat} {s s' : StT} (h : FLM d N b' s s') (hb : b ≤ b') : FLM d N b s s' := ⟨h.1, h.2.1, fun j r x y z => h.2.2 j r x y (by omega)⟩
/-- level d with other numbers -/
abbrev reL (A : LD) (q : Nat × Nat × Nat × Nat × Nat) : LD := (A.1, q, A.2.2.1, A.2.2.2)
theorem out_laid0 {n : Nat} {D D' : HD} {Lv : Nat → LD} {d NC NR nC nM mo NC' NR' mo' : Nat} {sC sM sC' sM' : StT} {q : Nat × Nat × Nat × Nat × Nat} {R' : RW} (h : PRE D Lv d NC NR nC nM mo sC sM) (xC : XC sC sC') (xM : XM sM sM') (hG : Gd D D') (hSB : SB sC' sM' D' NC' NR' nC nM mo') (a1 : NC ≤ NC') (a2 : NC' ≤ NC + 8) (a3 : NR ≤ NR') (a4 : NR' ≤ NR + 11) (fC : FLC d NC nC sC sC') (fM : FLM d NR nM sM sM') (kC : KGC (d + 1) NC sC sC') (kM : KGM (d + 1) NR sM sM') (e29 : sC'.2.1 29 d = sC.2.1 29 d ∧ sC'.2.1 30 d = sC.2.1 30 d) (e28 : sM'.2.1 28 d = sM.2.1 28 d) (hl : LVL sC' sM' D'.1 NC' NR' d (reL (Lv d) q) R') (hr : RR sC' sM' D'.1.1 NC' NR' (d + 1) R') : OUT n D Lv d NC NR nC nM sC sM (some (2, sC')) (f_X12_begin n sM') := by
  have hlt := h.lt
  obtain ⟨hS, hLO, hRR, hPL, c1, c2, hd, _⟩ := h
  have hw := hS.1.2.2.1
  have hLO' := hLO.gr hw (fC.lb hlt.1) (fM.lb hlt.2) hG.1 hG.2.1 a1 a3
  have hRR' := hRR.gr (Nat.lt_succ_self d) kC kM hG.1 a1 a3
  have em' : mkL D'.1 (Lv d) = mkL D.1 (Lv d) := msk_gr (fun i hi => (hRR.2.2.2.2.1 i hi).1) hG.2.1
  have hPL' : PL sC' sM' d (bCL (Lv d)) (bML (Lv d)) (nCL (Lv d)) (nML (Lv d)) (mkL D'.1 (Lv d)) (lsL (Lv d)) := by
    rw [em']
    exact hPL.gr (fun j i x y z => fC.2.2 j i x y (by omega)) (fun j hj => by
      rcases hj with rfl | rfl
      · exact e29.1
      · exact e29.2) (fun j i x y z => fM.2.2 j i x y (by omega)) e28
  refine ⟨D', NC', NR', nC, nM, mo', sC', sM', ⟨xC, kC.lo (Nat.zero_le _)⟩, xM, hG, hSB.1, Or.inr ⟨hSB, a1, a3, Nat.le_refl _, Nat.le_refl _, hLO', Or.inr (Or.inr ⟨rfl, rfl, a2, a4, rfl, reL (Lv d) q, (R', (0, 0, 0, 0, 0), (nC, nM, nC, nM), []), rfl, Nat.le_refl _, ?_, hr, rfl, rfl⟩)⟩⟩
  exact hLO'.lay rfl ⟨rfl, rfl⟩ hRR' hl hPL' ⟨c1, c2⟩ ⟨hlt.1, hlt.2⟩
theorem no_w {z : Nat} (hz : z ≤ 60) : ∀ i, i < z → (nI i = (-1 : Int32) ↔ i = 100) := fun i hi => ⟨fun e => absurd e (nI_ne_m1 (by omega)), fun e => by omega⟩
theorem at_w {z w : Nat} (hz : z ≤ 60) (hw : w < z) : ∀ i, i < z → (nI i = nI w ↔ i = w) := fun i hi => ⟨fun e => nI_inj (by omega) (by omega) e, fun e => by rw [e]⟩
/-- variables stay in the rows above -/
theorem keepV {t : FT} {z w : Nat} {fm : Nat → Nat} (hw : z ≤ w ∨ t.2.1 (fm w) ≠ 2) : ∀ i, i < z → t.2.1 (fm i) = 2 → ∃ j, j < nz z w ∧ fm (skp w j) = fm i := by
  intro i hi h2
  have hne : i ≠ w := fun e => by rcases hw with a | a; omega; rw [← e] at a; exact a h2
  by_cases c : i < w
  · exact ⟨i, by unfold nz; split <;> omega, by unfold skp; rw [if_pos c]⟩
  · exact ⟨i - 1, by unfold nz; split <;> omega, by unfold skp; rw [if_neg (by omega)]; congr 1; omega⟩
theorem keep42 {n : Nat} {s : StT} {d : Nat} (hd : d < 200) (x : Int32) : f_X5_keep_42 n s (nI d) x = some (uA s 31 (nI d) x) ∧ f_X5_keep_43 n s (nI d) x = some (uA s 32 (nI d) x) ∧ f_X5_keep_44 n s (nI d) x = some (uA s 33 (nI d) x) ∧ f_X5_keep_45 n s (nI d) x = some (uA s 34 (nI d) x) := by
  have e1 : ¬ nI d < (0 : Int32) := nI_nneg (by omega)
  have e2 : ¬ (200 : Int32) ≤ nI d := fun x => absurd ((nI_leI (a := 200) (by omega) (by omega)).mp x) (by omega)
  have e3 : inB (nI d) 200 = true := inB_nI hd (by omega)
  unfold f_X5_keep_42 f_X5_keep_43 f_X5_keep_44 f_X5_keep_45
  simp only [if_neg e1, if_neg e2, e3, if_true]
  exact ⟨trivial, trivial, trivial, trivial⟩
theorem kept42 {n : Nat} {s : StT} {d : Nat} (hd : d < 200) : f_X5_kept_42 n s (nI d) = some (s.2.1 31 d, s) ∧ f_X5_kept_43 n s (nI d) = some (s.2.1 32 d, s) ∧ f_X5_kept_44 n s (nI d) = some (s.2.1 33 d, s) ∧ f_X5_kept_45 n s (nI d) = some (s.2.1 34 d, s) := by
  have e1 : ¬ nI d < (0 : Int32) := nI_nneg (by omega)
  have e2 : ¬ (200 : Int32) ≤ nI d := fun x => absurd ((nI_leI (a := 200) (by omega) (by omega)).mp x) (by omega)
  have e3 : inB (nI d) 200 = true := inB_nI hd (by omega)
  unfold f_X5_kept_42 f_X5_kept_43 f_X5_kept_44 f_X5_kept_45
  simp only [if_neg e1, if_neg e2, e3, if_true, nI_cl (show d < 2 ^ 31 by omega)]
  exact ⟨trivial, trivial, trivial, trivial⟩
theorem waitC {n : Nat} {s : StT} {d : Nat} (hd : d < 200) (x : Int32) : f_X5_waitFor n s (nI d) x = some (2, uA s 31 (nI d) x) ∧ f_X5_waitIf n s 0 (nI d) x = some (-7, s) ∧ f_X5_waitIf n s 1 (nI d) x = some (2, uA s 31 (nI d) x) := by
  have w : f_X5_waitFor n s (nI d) x = some (2, uA s 31 (nI d) x) := by
    unfold f_X5_waitFor; rw [(keep42 hd x).1, Option.bind_some]
  refine ⟨w, ?_, ?_⟩
  · unfold f_X5_waitIf; rw [if_pos rfl]
  · unfold f_X5_waitIf; rw [if_neg (by decide), w, Option.bind_some]
/-- one cell of level d, class -/
theorem FLC.cell {d N b k : Nat} {s : StT} {x : Int32} (hk : 28 < k ∧ k < 35) (hd : d < 2 ^ 31) : FLC d N b s (uA s k (nI d) x) ∧ KGC (d + 1) N s (uA s k (nI d) x) := by
  refine ⟨⟨KGC.uA (by omega), fun j r p q h => ?_, fun j r p q _ => by simp only [uA_21]; rw [if_neg (by omega)]⟩, KGC.uA (by omega)⟩
  simp only [uA_21]
  by_cases c : j = k
  · rw [if_pos c, upd_j, nI_cl hd, if_neg (by omega)]
  · rw [if_neg c]
theorem FLM.cell {d N b k : Nat} {s : StT} {x : Int32} (hk : 24 < k ∧ k < 29) (hd : d < 2 ^ 31) : FLM d N b s (uA s k (nI d) x) ∧ KGM (d + 1) N s (uA s k (nI d) x) := by
  refine ⟨⟨KGM.uA (by omega), fun j r p q h => ?_, fun j r p q _ => by simp only [uA_21]; rw [if_neg (by omega)]⟩, KGM.uA (by omega)⟩
  simp only [uA_21]
  by_cases c : j = k
  · rw [if_pos c, upd_j, nI_cl hd, if_neg (by omega)]
  · rw [if_neg c]
theorem LWC.fl {d N b : Nat} {s s' : StT} (h : LWC (d + 1) s s') : FLC d N b s s' := ⟨(h.kg N).lo (by omega), fun j r p q _ => by rw [h.2.1 j (by omega)], fun j r p q _ => by rw [h.2.1 j (by omega)]⟩
theorem LWM.fl {d N b : Nat} {s s' : StT} (h : LWM (d + 1) s s') : FLM d N b s s' := ⟨(h.kg N).lo (by omega), fun j r p q _ => by rw [h.2.1 j (by omega)], fun j r p q _ => by rw [h.2.1 j (by omega)]⟩
theorem GC.fl {d N b : Nat} {s s' : StT} (h : GC N s s') : FLC d N b s s' := ⟨h.kg d, fun j r p q _ => by rw [h.2.1 j (by omega)], fun j r p q _ => by rw [h.2.1 j (by omega)]⟩
theorem GM.fl {d N b : Nat} {s s' : StT} (h : GM N s s') : FLM d N b s s' := ⟨h.kg d, fun j r p q _ => by rw [h.2.1 j (by omega)], fun j r p q _ => by rw [h.2.1 j (by omega)]⟩
theorem FrC.fl {d N b : Nat} {s s' : StT} (h : FrC s s') : FLC d N b s s' := ⟨h.kg d N, fun j r p q _ => by rw [h.2.1 j (by omega) (by omega) (by omega) (by omega) (by omega)], fun j r p q _ => by rw [h.2.1 j (by omega) (by omega) (by omega) (by omega) (by omega)]⟩
theorem FrM.fl {d N b : Nat} {s s' : StT} (h : FrM s s') : FLM d N b s s' := ⟨h.kg d N, fun j r p q _ => by rw [h.2.1 j (by omega) (by omega) (by omega)], fun j r p q _ => by rw [h.2.1 j (by omega) (by omega) (by omega)]⟩
/-- a row above with the same hypotheses and all of LEFT: stages 2, 3, 6, 7 -/
theorem lay_same {n : Nat} (hn : 100000 ≤ n) {D : HD} {Lv : Nat → LD} {d NC NR nC nM mo : Nat} {sC sM : StT} {q : Nat × Nat × Nat × Nat × Nat} {g' : Nat} (h : PRE D Lv d NC NR nC nM mo sC sM) (hq : q.1 ∈ [2, 3, 6, 7]) (hg : g' < D.1.1) (k3 : q.1 ∈ [2, 3] → D.1.2.1 (gR (Lv d).1) = 3) (k4 : q.1 ∈ [6, 7] → D.1.2.1 (gR (Lv d).1) = 4) (h3 : q.1 = 3 → sC.2.1 33 d = nI q.2.2.1 ∧ sM.2.1 27 d = nI q.2.2.2.1 ∧ q.2.2.1 < NC ∧ q.2.2.2.1 < NR ∧ TTx sC sM D.1.1 q.2.2.1 q.2.2.2.1 (aR (Lv d).1) (sR (Lv d).1)) (h6 : q.1 = 6 → lsL (Lv d) = []) (h7 : q.1 = 7 → lsL (Lv d) ≠ []) :
    ∃ s1 m1, f_X6_follow n sC (nI d) (-1) (nI g') = some s1 ∧ f_X12_within n sM (nI d) (-1) (nI g') (nI (aR (Lv d).1)) = some m1 ∧ OUT n D Lv d NC NR nC nM sC sM (some (2, uA s1 31 (nI d) (nI q.1))) (f_X12_begin n (uA m1 25 (nI d) (nI (q.1 + 1)))) := by
  have hS := h.1
  have hRR := h.2.2.1
  have hd := h.2.2.2.2.2.2.1
  have hz := hRR.1.2.1
  have hmem : q.1 = 2 ∨ q.1 = 3 ∨ q.1 = 6 ∨ q.1 = 7 := by simpa [List.mem_cons] using hq
  obtain ⟨s1, m1, c1, c2, c3, c4, c5, c6, c7⟩ := lay2 hn (w := 100) (wI := -1) (S' := sR (Lv d).1) hRR (by omega) (no_w hz) hg (Or.inl rfl) (fun _ _ => rfl)
  refine ⟨s1, m1, c1, c2, ?_⟩
  have fc := FLC.cell (d := d) (N := NC) (b := nC) (k := 31) (s := s1) (x := nI q.1) (by decide) (by omega)
  have fm := FLM.cell (d := d) (N := NR) (b := nM) (k := 25) (s := m1) (x := nI (q.1 + 1)) (by decide) (by omega)
  have kC := (c3.kg NC).tr fc.2 (Nat.le_refl _)
  have kM := (c4.kg NR).tr fm.2 (Nat.le_refl _)
  have hHS : HS D (uA s1 31 (nI d) (nI q.1)) (uA m1 25 (nI d) (nI (q.1 + 1))) := hS.1.mv (by show s1.1 6 = _; rw [c5]) (by show s1.1 7 = _; rw [c5]) (fun j x y => by simp only [uA_21]; rw [if_neg (by omega)]; exact c3.2.1 j (by omega)) (by show s1.2.2.2 0 = _; rw [c3.2.2.2.2]) (by show m1.1 0 = _; rw [c6]) (by show m1.1 2 = _; rw [c6]) (fun j x => by simp only [uA_21]; rw [if_neg (by omega)]; exact c4.2.1 j (by omega))
  refine out_laid0 (q := q) (mo' := mo) h (c3.x.tr (XC.a (by decide))) (c4.x.tr (XM.a (by decide))) (Gd.rf _) ⟨hHS, by show s1.1 16 = _; rw [c5]; exact hS.2.1, by show m1.1 18 = _; rw [c6]; exact hS.2.2.1, by show s1.1 18 = _; rw [c5]; exact hS.2.2.2.1, by show m1.1 30 = _; rw [c6]; exact hS.2.2.2.2.1, by show s1.1 17 = _; rw [c5]; exact hS.2.2.2.2.2.1, by show m1.1 22 = _; rw [c6]; exact hS.2.2.2.2.2.2.1, hS.2.2.2.2.2.2.2⟩ (Nat.le_refl _) (by omega) (Nat.le_refl _) (by omega) (c3.fl.tr fc.1 (Nat.le_refl _)) (c4.fl.tr fm.1 (Nat.le_refl _)) kC kM ⟨?_, ?_⟩ ?_ ?_ (c7.gr (Nat.lt_succ_self _) (KGC.uA (by decide)) (KGM.uA (by decide)) (Nat.le_refl _) (Nat.le_refl _) (Nat.le_refl _))
  · simp only [uA_21, if_neg (show ¬ (29 : Nat) = 31 by decide)]; rw [c3.2.1 29 (by decide)]
  · simp only [uA_21, if_neg (show ¬ (30 : Nat) = 31 by decide)]; rw [c3.2.1 30 (by decide)]
  · simp only [uA_21, if_neg (show ¬ (28 : Nat) = 25 by decide)]; rw [c4.2.1 28 (by decide)]
  · refine ⟨⟨by simp only [uA_21, if_true, upd_j, nI_cl (show d < 2 ^ 31 by omega)], by simp only [uA_21, if_true, upd_j, nI_cl (show d < 2 ^ 31 by omega)], by show q.1 ≤ 8; omega⟩, keepV (Or.inl (show zz (Lv d).1 ≤ 100 by omega)), fun _ _ => rfl, Or.inl ⟨by show q.1 ∈ _; rcases hmem with e | e | e | e <;> (rw [e]; decide), rfl⟩, ⟨fun x => ?_, k3, k4⟩, fun x => ?_, fun x => ?_, fun x => ?_, fun x => ?_, fun x => ?_, h6, h7⟩
    · have x : q.1 = 1 := x; omega
    · obtain ⟨b1, b2, b3, b4, b5⟩ := h3 x
      refine ⟨?_, ?_, b3, b4, b5.kg (Nat.le_refl _) (fun _ _ => rfl) kC kM b3 b4⟩
      · simp only [uA_21, if_neg (show ¬ (33 : Nat) = 31 by decide)]; rw [c3.2.1 33 (by decide)]; exact b1
      · simp only [uA_21, if_neg (show ¬ (27 : Nat) = 25 by decide)]; rw [c4.2.1 27 (by decide)]; exact b2
    · have x : q.1 = 5 := x; omega
    · have x : q.1 ∈ [4, 5, 8] := x
      simp only [List.mem_cons, List.not_mem_nil, or_false] at x; omega
    · have x : q.1 ∈ [4, 5] := x
      simp only [List.mem_cons, List.not_mem_nil, or_false] at x; omega
    · have x : q.1 = 8 := x; omega
