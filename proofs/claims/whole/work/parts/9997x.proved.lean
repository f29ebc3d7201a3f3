/-! ===== a premise was proved: what its level does then ===== -/
theorem uF_same {s : StT} {k : Nat} {x : Int32} (h : s.1 k = x) : uF s k x = s := by
  unfold uF
  refine Prod.ext (funext fun j => ?_) rfl
  show (if j = k then x else s.1 j) = s.1 j
  by_cases c : j = k
  · rw [if_pos c, c, h]
  · rw [if_neg c]
def RP (D : HD) (Lv : Nat → LD) (e NC NR nC nM mo c r : Nat) (sC sM : StT) (R' : RW) : Prop := PRE D Lv e NC NR nC nM mo sC sM ∧ LVL sC sM D.1 NC NR e (Lv e) R' ∧ c < NC ∧ r < NR ∧ sC.1 24 = nI c ∧ sM.1 25 = nI r ∧ TTx sC sM D.1.1 c r (aR R') (sR R')
/-- a level goes on where its premise has ended -/
def f_X5_goOn (n : Nat) (st : StT) (x1 x2 : Int32) : Option (Int32 × StT) := if x1 < 0 then none else (if x1 < (200 : Int32) then (if x2 = (1 : Int32) then (f_X5_goOnProved n st x1) else (f_X5_goOnFailed n st x1)) else none)
theorem gon1 {n : Nat} {s : StT} {e k : Nat} (he : e < 200) (h : s.2.1 31 e = nI k) : f_X5_goOn n s (nI e) 1 = (if nI k = 1 then ((f_X6_goalOf n s (nI e)).bind fun q94 => ((f_X1_firstOf_F0 n q94.2 q94.1).bind fun q97 => ((f_X5_kept_45 n q97.2 (nI e)).bind fun q109 => ((f_X7_lambda_T1 n q109.2 q97.1 (q97.2.1 24) q109.1).bind fun q112 => (f_X5_provedBy n q112.2 q112.1))))) else (if nI k = 2 then ((f_X5_keep_44 n s (nI e) (s.1 24)).bind fun q128 => ((f_X6_goalOf n q128 (nI e)).bind fun q146 => ((f_X1_secondOf_F0 n q146.2 q146.1).bind fun q149 => ((f_X6_follow n q149.2 (nI e) (-1 : Int32) q149.1).bind fun q152 => (f_X5_waitFor n q152 (nI e) (3 : Int32)))))) else (if nI k = 3 then ((f_X5_kept_44 n s (nI e)).bind fun q174 => ((f_X7_two_T1 n q174.2 (80 : Int32) q174.1 (q174.2.1 24)).bind fun q181 => (f_X5_provedBy n q181.2 q181.1))) else (if nI k = 4 then (f_X5_beginRightCase n s (nI e)) else (if nI k = 5 then ((f_X5_kept_43 n s (nI e)).bind fun q204 => ((f_X6_termAt n q204.2 (nI e) q204.1).bind fun q207 => ((f_X5_kept_44 n q207.2 (nI e)).bind fun q224 => ((f_X5_kept_45 n q224.2 (nI e)).bind fun q236 => ((f_X7_add_T1 n q236.2 (67 : Int32) q207.1 q224.1 (q224.2.1 24) q236.1).bind fun q239 => (f_X5_provedBy n q239.2 q239.1)))))) else (if nI k = 6 then ((f_X7_one_T1 n s (73 : Int32) (s.1 24)).bind fun q257 => (f_X5_provedBy n q257.2 q257.1)) else (if nI k = 7 then ((f_X7_one_T1 n s (74 : Int32) (s.1 24)).bind fun q275 => (f_X5_provedBy n q275.2 q275.1)) else (if nI k = 8 then (f_X5_beginAfterNested n s (nI e)) else (some ((1 : Int32), s)))))))))) := by
  unfold f_X5_goOn f_X5_goOnProved
  rw [if_neg (nI_nneg (by omega)), if_pos (show nI e < (200 : Int32) from (nI_ltI (b := 200) (by omega) (by omega)).mpr he), if_pos rfl, (kept42 he).1, Option.bind_some, h]
  simp only [bind_eta]
theorem TTx.hs {sC sM : StT} {F c r n : Nat} {S S' : Nat → Nat} (h : TTx sC sM F c r n S) (hS : ∀ k, k < n → S' k = S k) : TTx sC sM F c r n S' := h.gr (Nat.le_refl _) hS (GC.rf (c + 1) sC) (GM.rf (r + 1) sM) (Nat.lt_succ_self _) (Nat.lt_succ_self _)
theorem res_0 {n : Nat} {D : HD} {Lv : Nat → LD} {e NC NR nC nM mo c r : Nat} {sC sM : StT} {R' : RW} (h : RP D Lv e NC NR nC nM mo c r sC sM R') (hst : stL (Lv e) = 0) : OUT n D Lv e NC NR nC nM sC sM (f_X5_goOn n sC (nI e) 1) (f_X12_resumed n sM (nI e) 1) := by
  obtain ⟨h, hl, hc, hr, h24, h25, ht⟩ := h
  have hd := h.2.2.2.2.2.2.1
  have hS := h.1
  obtain ⟨⟨l1, l2, l3⟩, l4, l5, l6, l7⟩ := hl
  rw [hst] at l1 l2 l6
  have ea : aR R' = aR (Lv e).1 := by
    rcases l6 with ⟨_, x⟩ | ⟨x, _⟩
    · exact x
    · exact absurd x (by decide)
  rw [gon1 hd l1]
  unfold f_X12_resumed
  rw [inB_nI (show e < 201 by omega) (by omega), nI_cl (show e < 2 ^ 31 by omega), l2]
  simp only [if_true]
  rw [if_neg (show ¬ nI 0 = (1 : Int32) by decide), if_neg (show ¬ nI 0 = (2 : Int32) by decide), if_neg (show ¬ nI 0 = (3 : Int32) by decide), if_neg (show ¬ nI 0 = (4 : Int32) by decide), if_neg (show ¬ nI 0 = (5 : Int32) by decide), if_neg (show ¬ nI 0 = (6 : Int32) by decide), if_neg (show ¬ nI 0 = (7 : Int32) by decide), if_neg (show ¬ nI 0 = (8 : Int32) by decide), if_pos (show nI (0 + 1) = (1 : Int32) by decide)]
  have := out_proved (n := n) (c := c) (r := r) h (GC.rf NC sC) (GM.rf NR sM) hS.2.1 hS.2.2.1 (Nat.le_refl _) (Nat.le_succ _) (Nat.le_refl _) (by omega) hc hr (by rw [← ea]; exact ht.hs (fun k hk => (l5 k (by omega)).symm))
  rw [uF_same h24, uF_same h25] at this
  exact this
theorem res_1 {n : Nat} {D : HD} {Lv : Nat → LD} {e NC NR nC nM mo c r : Nat} {sC sM : StT} {R' : RW} (h : RP D Lv e NC NR nC nM mo c r sC sM R') (hst : stL (Lv e) = 1) : OUT n D Lv e NC NR nC nM sC sM (f_X5_goOn n sC (nI e) 1) (f_X12_resumed n sM (nI e) 1) := by
  obtain ⟨h, hl, hc, hr, h24, h25, ht⟩ := h
  have hd := h.2.2.2.2.2.2.1
  have hNC := h.2.2.2.2.2.2.2.1
  have hNR := h.2.2.2.2.2.2.2.2.1
  have hS := h.1
  have hRR := h.2.2.1
  have hal := hRR.2.2.2.1
  have hw := hS.1.2.2.1
  have hF := hw.2.1
  have hgl := hRR.2.2.1
  obtain ⟨⟨l1, l2, l3⟩, l4, l5, l6, ⟨l7, _, _⟩, _⟩ := hl
  have k5 := l7 hst
  rw [hst] at l1 l2 l6
  have hlo := hw.lo hgl (by omega)
  obtain ⟨ea, eb, b34, bN, b16, bne⟩ : aR R' = aR (Lv e).1 + 1 ∧ sR R' (aR (Lv e).1) = bdL (Lv e) ∧ sC.2.1 34 e = nI (bdL (Lv e)) ∧ bdL (Lv e) < NC ∧ sC.2.1 16 (bdL (Lv e)) = 104 ∧ FRE (Lv e).1 (bdL (Lv e)) := by
    rcases l6 with ⟨x, _⟩ | ⟨_, x⟩
    · exact absurd x (by decide)
    · exact x
  obtain ⟨s2, v2, c2, w2, k2⟩ := aT1_ex sC (N := NC) (by omega) 76 (nI c) (nI (D.1.2.2.1 (gR (Lv e).1))) 0 (nI (bdL (Lv e)))
  obtain ⟨m4, v4, g4, r4, i4⟩ := tM_ex sM (R := NR) (by omega) 76 (nI (D.1.2.2.1 (gR (Lv e).1))) (nI r) (-1) (-1)
  rw [gon1 hd l1]
  unfold f_X12_resumed
  rw [inB_nI (show e < 201 by omega) (by omega), nI_cl (show e < 2 ^ 31 by omega), l2, hRR.2.1.2.2.1, inB_nI (show gR (Lv e).1 < 4200 by omega) (by omega), nI_cl (show gR (Lv e).1 < 2 ^ 31 by omega), (hS.1.2.1.2 _ hgl).2.1, h25]
  simp only [if_true]
  rw [if_pos (show nI 1 = (1 : Int32) by decide), if_neg (show ¬ nI (1 + 1) = (1 : Int32) by decide), if_pos (show nI (1 + 1) = (2 : Int32) by decide), if_neg (show ¬ (1 : Int32) = 0 by decide), goalC hRR.1 (by omega), Option.bind_some]
  simp only []
  rw [firstOfF0 hS.1.1 hgl, Option.bind_some]
  simp only []
  rw [(kept42 hd).2.2.2, Option.bind_some, b34, h24]
  simp only []
  rw [lamC hS.2.1 (by omega), v2, Option.bind_some, termM hS.2.2.1 (by omega), v4, Option.bind_some]
  unfold f_X5_provedBy f_X12_proved
  simp only [Option.bind_some]
  refine out_proved h c2 g4 k2 i4 (Nat.le_succ _) (Nat.le_refl _) (Nat.le_succ _) (by omega) (Nat.lt_succ_self NC) (Nat.lt_succ_self NR) (TTx.lam (b := bdL (Lv e)) (by omega) (by omega) (by omega) r4.1 w2.1 (by omega) w2.2.2.1 r4.2.1 hc w2.2.1 hr r4.2.2.1 (Or.inl ⟨w2.2.2.2.2, bN, by rw [c2.2.2.1 16 _ (by decide) (by decide) bN]; exact b16, bne.1⟩) ?_)
  rw [← ea]
  refine ht.gr (Nat.le_refl _) (fun k hk => ?_) c2 g4 hc hr
  show (if k = aR (Lv e).1 then bdL (Lv e) else sR (Lv e).1 k) = sR R' k
  by_cases ck : k = aR (Lv e).1
  · rw [if_pos ck, ck, eb]
  · rw [if_neg ck, l5 k (by omega)]
theorem res_3 {n : Nat} {D : HD} {Lv : Nat → LD} {e NC NR nC nM mo c r : Nat} {sC sM : StT} {R' : RW} (h : RP D Lv e NC NR nC nM mo c r sC sM R') (hst : stL (Lv e) = 3) : OUT n D Lv e NC NR nC nM sC sM (f_X5_goOn n sC (nI e) 1) (f_X12_resumed n sM (nI e) 1) := by
  obtain ⟨h, hl, hc, hr, h24, h25, ht⟩ := h
  have hd := h.2.2.2.2.2.2.1
  have hNC := h.2.2.2.2.2.2.2.1
  have hNR := h.2.2.2.2.2.2.2.2.1
  have hS := h.1
  have hRR := h.2.2.1
  have hal := hRR.2.2.2.1
  obtain ⟨⟨l1, l2, l3⟩, l4, l5, l6, _, l8, _⟩ := hl
  obtain ⟨y1, y2, y3, y4, y5⟩ := l8 hst
  rw [hst] at l1 l2 l6
  have ea : aR R' = aR (Lv e).1 := by
    rcases l6 with ⟨_, x⟩ | ⟨x, _⟩
    · exact x
    · exact absurd x (by decide)
  obtain ⟨s2, v2, c2, w2, k2⟩ := aT1_ex sC (N := NC) (by omega) 80 (nI (hcL (Lv e))) (nI c) 0 (-1)
  obtain ⟨m4, v4, g4, r4, i4⟩ := tM_ex sM (R := NR) (by omega) 80 0 (nI (hrL (Lv e))) (nI r) (-1)
  rw [gon1 hd l1]
  unfold f_X12_resumed
  rw [inB_nI (show e < 201 by omega) (by omega), nI_cl (show e < 2 ^ 31 by omega), l2, h25, y2]
  simp only [if_true]
  rw [if_neg (show ¬ nI 3 = (1 : Int32) by decide), if_neg (show ¬ nI 3 = (2 : Int32) by decide), if_pos (show nI 3 = (3 : Int32) by decide), if_neg (show ¬ nI (3 + 1) = (1 : Int32) by decide), if_neg (show ¬ nI (3 + 1) = (2 : Int32) by decide), if_neg (show ¬ nI (3 + 1) = (3 : Int32) by decide), if_pos (show nI (3 + 1) = (4 : Int32) by decide), if_neg (show ¬ (1 : Int32) = 0 by decide), (kept42 hd).2.2.1, Option.bind_some, y1, h24]
  simp only []
  rw [twoC hS.2.1 (by omega), v2, Option.bind_some, termM hS.2.2.1 (by omega), v4, Option.bind_some]
  unfold f_X5_provedBy f_X12_proved
  simp only [Option.bind_some]
  refine out_proved h c2 g4 k2 i4 (Nat.le_succ _) (Nat.le_refl _) (Nat.le_succ _) (by omega) (Nat.lt_succ_self NC) (Nat.lt_succ_self NR) (TTx.two (k := 80) (by omega) (by omega) (by omega) (by decide) r4.1 w2.1 y3 w2.2.1 y4 r4.2.2.1 hc w2.2.2.1 hr r4.2.2.2.1 (y5.gr (Nat.le_refl _) (fun _ _ => rfl) c2 g4 y3 y4) ?_)
  rw [← ea]
  exact ht.gr (Nat.le_refl _) (fun k hk => (l5 k (by omega)).symm) c2 g4 hc hr
theorem res_67 {n : Nat} {D : HD} {Lv : Nat → LD} {e NC NR nC nM mo c r : Nat} {sC sM : StT} {R' : RW} (h : RP D Lv e NC NR nC nM mo c r sC sM R') (hst : stL (Lv e) = 6 ∨ stL (Lv e) = 7) : OUT n D Lv e NC NR nC nM sC sM (f_X5_goOn n sC (nI e) 1) (f_X12_resumed n sM (nI e) 1) := by
  obtain ⟨h, hl, hc, hr, h24, h25, ht⟩ := h
  have hd := h.2.2.2.2.2.2.1
  have hNC := h.2.2.2.2.2.2.2.1
  have hNR := h.2.2.2.2.2.2.2.2.1
  have hS := h.1
  have hRR := h.2.2.1
  have hal := hRR.2.2.2.1
  obtain ⟨⟨l1, l2, l3⟩, l4, l5, l6, _⟩ := hl
  have ea : aR R' = aR (Lv e).1 := by
    rcases l6 with ⟨_, x⟩ | ⟨x, _⟩
    · exact x
    · exfalso; rcases hst with z | z <;> (rw [z] at x; exact absurd x (by decide))
  rcases hst with hst | hst
  · rw [hst] at l1 l2
    obtain ⟨s2, v2, c2, w2, k2⟩ := aT1_ex sC (N := NC) (by omega) 73 (nI c) 0 0 (-1)
    obtain ⟨m4, v4, g4, r4, i4⟩ := tM_ex sM (R := NR) (by omega) 73 0 (nI r) (-1) (-1)
    rw [gon1 hd l1]
    unfold f_X12_resumed f_X12_resumed2
    rw [inB_nI (show e < 201 by omega) (by omega), nI_cl (show e < 2 ^ 31 by omega), l2, h25, h24]
    simp only [if_true]
    rw [if_neg (show ¬ nI 6 = (1 : Int32) by decide), if_neg (show ¬ nI 6 = (2 : Int32) by decide), if_neg (show ¬ nI 6 = (3 : Int32) by decide), if_neg (show ¬ nI 6 = (4 : Int32) by decide), if_neg (show ¬ nI 6 = (5 : Int32) by decide), if_pos (show nI 6 = (6 : Int32) by decide), if_neg (show ¬ nI (6 + 1) = (1 : Int32) by decide), if_neg (show ¬ nI (6 + 1) = (2 : Int32) by decide), if_neg (show ¬ nI (6 + 1) = (3 : Int32) by decide), if_neg (show ¬ nI (6 + 1) = (4 : Int32) by decide), if_neg (show ¬ nI (6 + 1) = (5 : Int32) by decide), if_neg (show ¬ nI (6 + 1) = (6 : Int32) by decide), if_pos (show nI (6 + 1) = (7 : Int32) by decide), oneC hS.2.1 (by omega), v2, Option.bind_some, termM hS.2.2.1 (by omega), v4, Option.bind_some]
    unfold f_X5_provedBy f_X12_proved
    simp only [Option.bind_some]
    refine out_proved h c2 g4 k2 i4 (Nat.le_succ _) (Nat.le_refl _) (Nat.le_succ _) (by omega) (Nat.lt_succ_self NC) (Nat.lt_succ_self NR) (TTx.one (k := 73) (by omega) (by omega) (by omega) (by decide) r4.1 w2.1 hc w2.2.1 hr r4.2.2.1 r4.2.2.2.1 ?_)
    rw [← ea]
    exact ht.gr (Nat.le_refl _) (fun k hk => (l5 k (by omega)).symm) c2 g4 hc hr
  · rw [hst] at l1 l2
    obtain ⟨s2, v2, c2, w2, k2⟩ := aT1_ex sC (N := NC) (by omega) 74 (nI c) 0 0 (-1)
    obtain ⟨m4, v4, g4, r4, i4⟩ := tM_ex sM (R := NR) (by omega) 74 0 (nI r) (-1) (-1)
    rw [gon1 hd l1]
    unfold f_X12_resumed f_X12_resumed2
    rw [inB_nI (show e < 201 by omega) (by omega), nI_cl (show e < 2 ^ 31 by omega), l2, h25, h24]
    simp only [if_true]
    rw [if_neg (show ¬ nI 7 = (1 : Int32) by decide), if_neg (show ¬ nI 7 = (2 : Int32) by decide), if_neg (show ¬ nI 7 = (3 : Int32) by decide), if_neg (show ¬ nI 7 = (4 : Int32) by decide), if_neg (show ¬ nI 7 = (5 : Int32) by decide), if_neg (show ¬ nI 7 = (6 : Int32) by decide), if_pos (show nI 7 = (7 : Int32) by decide), if_neg (show ¬ nI (7 + 1) = (1 : Int32) by decide), if_neg (show ¬ nI (7 + 1) = (2 : Int32) by decide), if_neg (show ¬ nI (7 + 1) = (3 : Int32) by decide), if_neg (show ¬ nI (7 + 1) = (4 : Int32) by decide), if_neg (show ¬ nI (7 + 1) = (5 : Int32) by decide), if_neg (show ¬ nI (7 + 1) = (6 : Int32) by decide), if_neg (show ¬ nI (7 + 1) = (7 : Int32) by decide), if_pos (show nI (7 + 1) = (8 : Int32) by decide), oneC hS.2.1 (by omega), v2, Option.bind_some, termM hS.2.2.1 (by omega), v4, Option.bind_some]
    unfold f_X5_provedBy f_X12_proved
    simp only [Option.bind_some]
    refine out_proved h c2 g4 k2 i4 (Nat.le_succ _) (Nat.le_refl _) (Nat.le_succ _) (by omega) (Nat.lt_succ_self NC) (Nat.lt_succ_self NR) (TTx.one (k := 74) (by omega) (by omega) (by omega) (by decide) r4.1 w2.1 hc w2.2.1 hr r4.2.2.1 r4.2.2.2.1 ?_)
    rw [← ea]
    exact ht.gr (Nat.le_refl _) (fun k hk => (l5 k (by omega)).symm) c2 g4 hc hr
theorem res_5 {n : Nat} {D : HD} {Lv : Nat → LD} {e NC NR nC nM mo c r : Nat} {sC sM : StT} {R' : RW} (h : RP D Lv e NC NR nC nM mo c r sC sM R') (hst : stL (Lv e) = 5) : OUT n D Lv e NC NR nC nM sC sM (f_X5_goOn n sC (nI e) 1) (f_X12_resumed n sM (nI e) 1) := by
  obtain ⟨h, hl, hc, hr, h24, h25, ht⟩ := h
  have hd := h.2.2.2.2.2.2.1
  have hNC := h.2.2.2.2.2.2.2.1
  have hNR := h.2.2.2.2.2.2.2.2.1
  have hS := h.1
  have hRR := h.2.2.1
  have hal := hRR.2.2.2.1
  obtain ⟨⟨l1, l2, l3⟩, l4, l5, l6, _, _, l9, l10, _⟩ := hl
  obtain ⟨y1, y2, y3, y4, y5⟩ := l9 hst
  obtain ⟨x1, x2, x3⟩ := l10 (by rw [hst]; decide)
  rw [hst] at l1 l2 l6
  obtain ⟨ea, eb, b34, bN, b16, bne⟩ : aR R' = aR (Lv e).1 + 1 ∧ sR R' (aR (Lv e).1) = bdL (Lv e) ∧ sC.2.1 34 e = nI (bdL (Lv e)) ∧ bdL (Lv e) < NC ∧ sC.2.1 16 (bdL (Lv e)) = 104 ∧ FRE (Lv e).1 (bdL (Lv e)) := by
    rcases l6 with ⟨x, _⟩ | ⟨_, x⟩
    · exact absurd x (by decide)
    · exact x
  obtain ⟨_, _, htc, _, _⟩ := hRR.2.2.2.2.1 _ x3
  obtain ⟨r1, m3, NR', t1, t2, t3, t4, t5, t6, t7⟩ := termOfM (n := n) hRR (by omega) x3 hS.2.2.1 (by omega)
  obtain ⟨s2, v2, c2, w2, k2⟩ := aT1_ex sC (N := NC) (by omega) 67 (nI (tcR (Lv e).1 (piL (Lv e)))) (nI (hcL (Lv e))) (nI c) (nI (bdL (Lv e)))
  obtain ⟨m4, v4, g4, r4, i4⟩ := tM_ex m3 (R := NR') (by omega) 67 0 (nI r1) (nI (hrL (Lv e))) (nI r)
  rw [gon1 hd l1]
  unfold f_X12_resumed
  rw [inB_nI (show e < 201 by omega) (by omega), nI_cl (show e < 2 ^ 31 by omega), l2, x2]
  simp only [if_true]
  rw [if_neg (show ¬ nI 5 = (1 : Int32) by decide), if_neg (show ¬ nI 5 = (2 : Int32) by decide), if_neg (show ¬ nI 5 = (3 : Int32) by decide), if_neg (show ¬ nI 5 = (4 : Int32) by decide), if_pos (show nI 5 = (5 : Int32) by decide), if_neg (show ¬ nI (5 + 1) = (1 : Int32) by decide), if_neg (show ¬ nI (5 + 1) = (2 : Int32) by decide), if_neg (show ¬ nI (5 + 1) = (3 : Int32) by decide), if_neg (show ¬ nI (5 + 1) = (4 : Int32) by decide), if_neg (show ¬ nI (5 + 1) = (5 : Int32) by decide), if_pos (show nI (5 + 1) = (6 : Int32) by decide), if_neg (show ¬ (1 : Int32) = 0 by decide), (kept42 hd).2.1, Option.bind_some, x1, t1, Option.bind_some]
  simp only []
  rw [(fAtC hRR.1 (by omega) x3).2, Option.bind_some]
  simp only []
  rw [(kept42 hd).2.2.1, Option.bind_some, y1]
  simp only []
  rw [(kept42 hd).2.2.2, Option.bind_some, b34, h24]
  simp only []
  rw [addT1 hS.2.1 (by omega), v2, Option.bind_some, t6.2.1 27 (by decide), y2, t6.1 25 (by decide), h25, termM t5 (by omega), v4, Option.bind_some]
  unfold f_X5_provedBy f_X12_proved
  simp only [Option.bind_some]
  have G := t6.tr g4 t2
  refine out_proved h c2 G k2 i4 (Nat.le_succ _) (Nat.le_refl _) (by omega) (by omega) (Nat.lt_succ_self NC) (Nat.lt_succ_self NR') (TTx.cas (b := bdL (Lv e)) (by omega) (by omega) (by omega) r4.1 w2.1 htc w2.2.1 t4 r4.2.2.1 y3 w2.2.2.1 (by omega) r4.2.2.2.1 hc w2.2.2.2.1 (by omega) r4.2.2.2.2 ⟨w2.2.2.2.2, bN, by rw [c2.2.2.1 16 _ (by decide) (by decide) bN]; exact b16, bne.1⟩ (t7.gr (Nat.le_refl _) (fun _ _ => rfl) c2 g4 htc t4) (y5.gr (Nat.le_refl _) (fun _ _ => rfl) c2 G y3 y4) ?_)
  rw [← ea]
  refine ht.gr (Nat.le_refl _) (fun k hk => ?_) c2 G hc hr
  show (if k = aR (Lv e).1 then bdL (Lv e) else sR (Lv e).1 k) = sR R' k
  by_cases ck : k = aR (Lv e).1
  · rw [if_pos ck, ck, eb]
  · rw [if_neg ck, l5 k (by omega)]
