/-! ===== a premise under one hypothesis more: stages 1, 4, 5 ===== -/
theorem lay_hyp {n : Nat} (hn : 100000 ≤ n) {D D1 : HD} {Lv : Nat → LD} {d NC NR nC nM mo NC1 NR1 mo1 : Nat} {sC sM s1 m1 : StT} {q : Nat × Nat × Nat × Nat × Nat} {w g' f b : Nat} {wI : Int32} (h : PRE D Lv d NC NR nC nM mo sC sM) (p : PRG D d NC NR nC nM sC sM D1 NC1 NR1 s1 m1) (h17 : s1.1 17 = nI mo1) (h22 : m1.1 22 = nI mo1) (hmo : mo1 ≤ 60) (hR : RR s1 m1 D1.1.1 NC1 NR1 d (Lv d).1) (b1 : NC1 ≤ NC + 8) (b2 : NR1 + 1 ≤ NR + 11)
    (hw : ∀ i, i < zz (Lv d).1 → (nI i = wI ↔ i = w)) (wv : zz (Lv d).1 ≤ w ∨ D1.1.2.1 (fmR (Lv d).1 w) ≠ 2) (hg : g' < D1.1.1) (hf : f < D1.1.1) (hb1 : b < NC1) (hb2 : s1.2.1 16 b = 104) (hb3 : s1.2.1 34 d = nI b) (hb4 : FRE (Lv d).1 b) (hq : q.1 ∈ [1, 4, 5]) (hqb : q.2.2.2.2 = b)
    (k1 : q.1 = 1 → D1.1.2.1 (gR (Lv d).1) = 5) (k45 : q.1 ∈ [4, 5] → s1.2.1 32 d = nI q.2.1 ∧ m1.2.1 26 d = nI q.2.1 ∧ q.2.1 < zz (Lv d).1 ∧ D1.1.2.1 (fmR (Lv d).1 q.2.1) = 4) (k5 : q.1 = 5 → s1.2.1 33 d = nI q.2.2.1 ∧ m1.2.1 27 d = nI q.2.2.2.1 ∧ q.2.2.1 < NC1 ∧ q.2.2.2.1 < NR1 ∧ TTx s1 m1 D1.1.1 q.2.2.1 q.2.2.2.1 (aR (Lv d).1 + 1) (updN (sR (Lv d).1) (aR (Lv d).1) b)) :
    ∃ s2 m2 m3 s3 m4 ok, f_X6_follow n s1 (nI d) wI (nI g') = some s2 ∧ f_X12_within n m1 (nI d) wI (nI g') (nI (aR (Lv d).1 + 1)) = some m2 ∧ LWC (d + 1) s1 s2 ∧ LWM (d + 1) m1 m2 ∧ s2.1 = s1.1 ∧ m2.1 = m1.1 ∧ f_X12_hypothesis n (uA m2 25 (nI d) (nI (q.1 + 1))) (nI (aR (Lv d).1)) = some (nI NR1, m3) ∧ f_X6_comes n s2 (nI (d + 1)) (nI f) (nI b) = some (mI ok, s3) ∧ f_X12_comes n m3 (nI (d + 1)) (nI f) (nI NR1) (nI (aR (Lv d).1 + 1)) = some (mI ok, m4) ∧
      OUT n D Lv d NC NR nC nM sC sM (if ok = true then some (2, uA s3 31 (nI d) (nI q.1)) else some (-7, s3)) (if ok = true then f_X12_begin n m4 else some (3, m4)) := by
  have hd := h.2.2.2.2.2.2.1
  have hNC := h.2.2.2.2.2.2.2.1
  have hNR := h.2.2.2.2.2.2.2.2.1
  have hz := hR.1.2.1
  have ha := hR.2.2.2.1
  have hw0 := p.2.2.2.2.2.1.2.2.1
  have hF := hw0.2.1
  have hmem : q.1 = 1 ∨ q.1 = 4 ∨ q.1 = 5 := by simpa [List.mem_cons] using hq
  have hS' : updN (sR (Lv d).1) (aR (Lv d).1) b (aR (Lv d).1) = b := by unfold updN; rw [if_pos rfl]
  have hSk : ∀ k, k < aR (Lv d).1 → updN (sR (Lv d).1) (aR (Lv d).1) b k = sR (Lv d).1 k := fun k hk => by unfold updN; rw [if_neg (by omega)]
  obtain ⟨s2, m2, c1, c2, c3, c4, c5, c6, c7⟩ := lay2 hn (S' := updN (sR (Lv d).1) (aR (Lv d).1) b) hR (by omega) hw hg (Or.inr ⟨rfl, by rw [hS']; exact hb1, by rw [hS']; exact hb2, fun i hi => by rw [hS']; exact hb4.2 i hi⟩) hSk
  have p2 := (p.lw c3 c4).mc 25 (by decide) (by omega) (nI (q.1 + 1))
  have m18 : (uA m2 25 (nI d) (nI (q.1 + 1))).1 18 = nI NR1 := p2.2.2.2.2.2.2.1.2
  have gm := tM_fr (s := uA m2 25 (nI d) (nI (q.1 + 1))) (R := NR1) (by omega) 72 (nI (aR (Lv d).1)) (-1) (-1) (-1)
  have tr := tM_rows (s := uA m2 25 (nI d) (nI (q.1 + 1))) (R := NR1) (by omega) 72 (nI (aR (Lv d).1)) (-1) (-1) (-1)
  generalize hm3 : tM (uA m2 25 (nI d) (nI (q.1 + 1))) NR1 72 (nI (aR (Lv d).1)) (-1) (-1) (-1) = m3 at gm tr
  have eh : f_X12_hypothesis n (uA m2 25 (nI d) (nI (q.1 + 1))) (nI (aR (Lv d).1)) = some (nI NR1, m3) := by
    unfold f_X12_hypothesis
    rw [termM m18 (by omega), Option.bind_some, hm3]
  have m318 : m3.1 18 = nI (NR1 + 1) := by rw [← hm3]; rfl
  have p3 := p2.m1 gm m318 (by omega)
  have hR2 : RR s2 m3 D1.1.1 NC1 (NR1 + 1) (d + 1) _ := c7.gr (Nat.lt_succ_self _) (KGC.rf _ _ _) ((KGM.uA (k := 25) (i := nI d) (x := nI (q.1 + 1)) (by decide)).tr (gm.kg _) (Nat.le_refl _)) (Nat.le_refl _) (Nat.le_refl _) (by omega)
  have kb : s2.2.1 16 b = 104 := by rw [c3.2.1 16 (by decide)]; exact hb2
  have ht : TTx s2 m3 D1.1.1 b NR1 (aR (Lv d).1 + 1) (updN (sR (Lv d).1) (aR (Lv d).1) b) := TTx.hyp (k := aR (Lv d).1) (by omega) (by omega) (by omega) tr.1 kb (by omega) tr.2.1 hS'.symm
  have e17 : s2.1 17 = nI mo1 := by rw [c5]; exact h17
  have e22 : m3.1 22 = nI mo1 := by rw [gm.1 22 (by decide)]; show m2.1 22 = _; rw [c6]; exact h22
  rcases comes2 hn hR2 (by omega) hF hf (Nat.le_refl _) (fun k h1 h2 => absurd h2 (Nat.not_lt.mpr h1)) hb1 (Nat.lt_succ_self _) ht e17 e22 hmo with ⟨R', s3, m4, mo', q1, q2, q3, q4, q5, q6, q7, q8, q9, q10, q11, q12, q13, q14⟩ | ⟨q1, q2⟩
  · refine ⟨s2, m2, m3, s3, m4, true, c1, c2, c3, c4, c5, c6, eh, q1, q2, ?_⟩
    rw [if_pos rfl, if_pos rfl]
    have p4 := (p3.lw q9 q10).cc 31 (by decide) (by omega) (nI q.1)
    have kC : KGC (d + 2) NC1 s3 (uA s3 31 (nI d) (nI q.1)) := KGC.uA (by decide)
    have k13 : KGC (d + 1) NC1 s1 (uA s3 31 (nI d) (nI q.1)) := ((c3.kg NC1).tr (q9.kg NC1) (Nat.le_refl _)).tr (KGC.uA (by decide)) (Nat.le_refl _)
    have m14 : KGM (d + 1) NR1 m1 m4 := (((c4.kg NR1).tr (KGM.uA (k := 25) (i := nI d) (x := nI (q.1 + 1)) (by decide)) (Nat.le_refl _)).tr (gm.kg _) (Nat.le_refl _)).tr (q10.kg NR1) (Nat.le_refl _)
    have cellC : ∀ j, 31 < j → j < 35 → (uA s3 31 (nI d) (nI q.1)).2.1 j d = s1.2.1 j d := fun j x y => by
      simp only [uA_21]; rw [if_neg (by omega), q9.2.1 j (by omega), c3.2.1 j (by omega)]
    have cellM : ∀ j, 25 < j → j < 29 → m4.2.1 j d = m1.2.1 j d := fun j x y => by
      rw [q10.2.1 j (by omega), gm.2.1 j (by omega)]; simp only [uA_21]; rw [if_neg (by omega), c4.2.1 j (by omega)]
    refine PRG.laid (q := q) h p4 q12 q13 q14 b1 b2 ?_ (q3.gr (Nat.lt_succ_self _) kC (KGM.rf _ _ _) (Nat.le_refl _) (Nat.le_refl _) (Nat.le_refl _))
    refine ⟨⟨by simp only [uA_21, if_true, upd_j, nI_cl (show d < 2 ^ 31 by omega)], ?_, by show q.1 ≤ 8; omega⟩, fun i hi hk => ?_, fun k hk => ?_, Or.inr ⟨?_, ?_, ?_, ?_, ?_, ?_, ?_⟩, ⟨k1, fun x => ?_, fun x => ?_⟩, fun x => ?_, fun x => ?_, fun x => ?_, fun x => ?_, fun x => ?_, fun x => ?_, fun x => ?_⟩
    · rw [q10.2.1 25 (by decide), gm.2.1 25 (by decide)]; simp only [uA_21, if_true, upd_j, nI_cl (show d < 2 ^ 31 by omega)]
    · obtain ⟨j, hj, ej⟩ := keepV (t := D1.1) wv i hi hk
      exact ⟨j, Nat.lt_of_lt_of_le hj q7, (q8 j hj).trans ej⟩
    · rw [q6]; exact hSk k hk
    · show q.1 ∈ _; rcases hmem with e | e | e <;> (rw [e]; decide)
    · rw [q5]
    · rw [q6]; show _ = q.2.2.2.2; rw [hqb]; exact hS'
    · show _ = nI q.2.2.2.2; rw [hqb, cellC 34 (by decide) (by decide)]; exact hb3
    · show q.2.2.2.2 < _; rw [hqb]; exact hb1
    · show (uA s3 31 (nI d) (nI q.1)).2.1 16 q.2.2.2.2 = 104
      rw [hqb, k13.2.2 16 b (by decide) (by decide) hb1]; exact hb2
    · show FRE (Lv d).1 q.2.2.2.2; rw [hqb]; exact hb4
    · have x : q.1 ∈ [2, 3] := x
      simp only [List.mem_cons, List.not_mem_nil, or_false] at x; omega
    · have x : q.1 ∈ [6, 7] := x
      simp only [List.mem_cons, List.not_mem_nil, or_false] at x; omega
    · have x : q.1 = 3 := x; omega
    · obtain ⟨y1, y2, y3, y4, y5⟩ := k5 x
      refine ⟨?_, ?_, y3, by show q.2.2.2.1 < NR1 + 1; omega, ?_⟩
      · rw [cellC 33 (by decide) (by decide)]; exact y1
      · rw [cellM 27 (by decide) (by decide)]; exact y2
      · show TTx _ _ _ q.2.2.1 q.2.2.2.1 (aR (Lv d).1 + 1) (updN (sR (Lv d).1) (aR (Lv d).1) q.2.2.2.2)
        rw [hqb]
        exact y5.kg (Nat.le_refl _) (fun _ _ => rfl) k13 m14 y3 y4
    · obtain ⟨y1, y2, y3, y4⟩ := k45 (by
        have x : q.1 ∈ [4, 5, 8] := x
        simp only [List.mem_cons, List.not_mem_nil, or_false] at x ⊢; omega)
      exact ⟨by rw [cellC 32 (by decide) (by decide)]; exact y1, by rw [cellM 26 (by decide) (by decide)]; exact y2, y3⟩
    · exact (k45 x).2.2.2
    · have x : q.1 = 8 := x; omega
    · have x : q.1 = 6 := x; omega
    · have x : q.1 = 7 := x; omega
  · refine ⟨s2, m2, m3, s2, uF m3 24 (-7), false, c1, c2, c3, c4, c5, c6, eh, q1, q2, ?_⟩
    rw [if_neg (by decide), if_neg (by decide)]
    exact (p3.f24 (-7)).full e17 e22 rfl
