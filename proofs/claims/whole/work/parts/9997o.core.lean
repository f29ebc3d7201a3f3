/-! ===== premises whose rows are laid; the rules that take one of LEFT away ===== -/
theorem RR.next {sC sM : StT} {F NC NR d w g' ar' : Nat} {R : RW} {S' : Nat → Nat} (h : RR sC sM F NC NR d R) (hc : RC sC (d + 1) (nz (zz R) w) (fun j => fmR R (skp w j)) (fun j => tcR R (skp w j)) g') (hm : RM sM (d + 1) (nz (zz R) w) (fun j => fmR R (skp w j)) (fun j => trR R (skp w j)) (fun j => mdR R (skp w j)) g' ar') (hg : g' < F) (ha : (ar' = aR R ∨ (ar' = aR R + 1 ∧ S' (aR R) < NC ∧ sC.2.1 16 (S' (aR R)) = 104 ∧ ∀ i, i < zz R → tcR R i < S' (aR R)))) (hS : ∀ k, k < aR R → S' k = sR R k) : RR sC sM F NC NR (d + 1) (nz (zz R) w, (fun j => fmR R (skp w j)), (fun j => tcR R (skp w j)), (fun j => trR R (skp w j)), (fun j => mdR R (skp w j)), g', ar', S') := by
  obtain ⟨a1, a2, a3, a4, a5, a6⟩ := h
  have hlt0 : ∀ j, j < nz (zz R) w → skp w j < zz R := fun j hj => by unfold nz at hj; unfold skp; split at hj <;> split <;> omega
  refine ⟨hc, hm, hg, by rcases ha with ha | ha <;> (show ar' ≤ _; omega), fun j hj => ?_, fun k hk => ?_⟩
  · have hj : j < nz (zz R) w := hj
    have hlt : skp w j < zz R := by unfold nz at hj; unfold skp; split at hj <;> split <;> omega
    obtain ⟨b1, b2, b3, b4, b5⟩ := a5 _ hlt
    exact ⟨b1, by show mdR R (skp w j) ≤ ar'; rcases ha with ha | ha <;> omega, b3, b4, b5.kg (Nat.le_refl _) (fun k hk => hS k (by omega)) (KGC.rf 0 _ _) (KGM.rf 0 _ _) b3 b4⟩
  · have hk : k < ar' := hk
    show S' k < NC ∧ sC.2.1 16 (S' k) = 104 ∧ ∀ j, j < nz (zz R) w → mdR R (skp w j) ≤ k → NBx sC (tcR R (skp w j)) (S' k)
    by_cases c : k < aR R
    · rw [hS k c]; exact ⟨(a6 k c).1, (a6 k c).2.1, fun j hj hm => (a6 k c).2.2 _ (hlt0 j hj) hm⟩
    · rcases ha with ha | ⟨ha, hb1, hb2, hb3⟩
      · omega
      · rw [show k = aR R by omega]; exact ⟨hb1, hb2, fun j hj _ => Or.inl (hb3 _ (hlt0 j hj))⟩
theorem hyp_core {n : Nat} (hn : 100000 ≤ n) {D D1 : HD} {Lv : Nat → LD} {d NC NR nC nM mo NC1 NR1 mo1 : Nat} {sC sM s2 m2 : StT} {q : Nat × Nat × Nat × Nat × Nat} {w f b g' : Nat} (h : PRE D Lv d NC NR nC nM mo sC sM) (p : PRG D d NC NR nC nM sC sM D1 NC1 NR1 s2 m2) (h17 : s2.1 17 = nI mo1) (h22 : m2.1 22 = nI mo1) (hmo : mo1 ≤ 60) (c7 : RR s2 m2 D1.1.1 NC1 NR1 (d + 1) (nz (zz (Lv d).1) w, (fun j => fmR (Lv d).1 (skp w j)), (fun j => tcR (Lv d).1 (skp w j)), (fun j => trR (Lv d).1 (skp w j)), (fun j => mdR (Lv d).1 (skp w j)), g', aR (Lv d).1 + 1, updN (sR (Lv d).1) (aR (Lv d).1) b)) (b1 : NC1 ≤ NC + 8) (b2 : NR1 + 1 ≤ NR + 11)
    (wv : zz (Lv d).1 ≤ w ∨ D1.1.2.1 (fmR (Lv d).1 w) ≠ 2) (hf : f < D1.1.1) (hb1 : b < NC1) (hb2 : s2.2.1 16 b = 104) (hb3 : s2.2.1 34 d = nI b) (hb4 : FRE (Lv d).1 b) (hq : q.1 ∈ [1, 4, 5]) (hqb : q.2.2.2.2 = b)
    (k1 : q.1 = 1 → D1.1.2.1 (gR (Lv d).1) = 5) (k45 : q.1 ∈ [4, 5] → s2.2.1 32 d = nI q.2.1 ∧ m2.2.1 26 d = nI q.2.1 ∧ q.2.1 < zz (Lv d).1 ∧ D1.1.2.1 (fmR (Lv d).1 q.2.1) = 4) (k5 : q.1 = 5 → s2.2.1 33 d = nI q.2.2.1 ∧ m2.2.1 27 d = nI q.2.2.2.1 ∧ q.2.2.1 < NC1 ∧ q.2.2.2.1 < NR1 ∧ TTx s2 m2 D1.1.1 q.2.2.1 q.2.2.2.1 (aR (Lv d).1 + 1) (updN (sR (Lv d).1) (aR (Lv d).1) b)) :
    ∃ m3 s3 m4 ok, f_X12_hypothesis n (uA m2 25 (nI d) (nI (q.1 + 1))) (nI (aR (Lv d).1)) = some (nI NR1, m3) ∧ f_X6_comes n s2 (nI (d + 1)) (nI f) (nI b) = some (mI ok, s3) ∧ f_X12_comes n m3 (nI (d + 1)) (nI f) (nI NR1) (nI (aR (Lv d).1 + 1)) = some (mI ok, m4) ∧
      OUT n D Lv d NC NR nC nM sC sM (if ok = true then some (2, uA s3 31 (nI d) (nI q.1)) else some (-7, s3)) (if ok = true then f_X12_begin n m4 else some (3, m4)) := by
  have hd := h.2.2.2.2.2.2.1
  have hNC := h.2.2.2.2.2.2.2.1
  have hNR := h.2.2.2.2.2.2.2.2.1
  have ha := h.2.2.1.2.2.2.1
  have hw0 := p.2.2.2.2.2.1.2.2.1
  have hF := hw0.2.1
  have hmem : q.1 = 1 ∨ q.1 = 4 ∨ q.1 = 5 := by simpa [List.mem_cons] using hq
  have hS' : updN (sR (Lv d).1) (aR (Lv d).1) b (aR (Lv d).1) = b := by unfold updN; rw [if_pos rfl]
  have hSk : ∀ k, k < aR (Lv d).1 → updN (sR (Lv d).1) (aR (Lv d).1) b k = sR (Lv d).1 k := fun k hk => by unfold updN; rw [if_neg (by omega)]
  have p2 := p.mc 25 (by decide) (by omega) (nI (q.1 + 1))
  have m18 : (uA m2 25 (nI d) (nI (q.1 + 1))).1 18 = nI NR1 := p2.2.2.2.2.2.2.1.2
  have gm := tM_fr (s := uA m2 25 (nI d) (nI (q.1 + 1))) (R := NR1) (by omega) 72 (nI (aR (Lv d).1)) (-1) (-1) (-1)
  have tr := tM_rows (s := uA m2 25 (nI d) (nI (q.1 + 1))) (R := NR1) (by omega) 72 (nI (aR (Lv d).1)) (-1) (-1) (-1)
  generalize hm3 : tM (uA m2 25 (nI d) (nI (q.1 + 1))) NR1 72 (nI (aR (Lv d).1)) (-1) (-1) (-1) = m3 at gm tr
  have eh : f_X12_hypothesis n (uA m2 25 (nI d) (nI (q.1 + 1))) (nI (aR (Lv d).1)) = some (nI NR1, m3) := by
    unfold f_X12_hypothesis
    rw [termM m18 (by omega), Option.bind_some, hm3]
  have m318 : m3.1 18 = nI (NR1 + 1) := by rw [← hm3]; rfl
  have p3 := p2.m1 gm m318 (by omega)
  have hR2 : RR s2 m3 D1.1.1 NC1 (NR1 + 1) (d + 1) _ := c7.gr (Nat.lt_succ_self _) (KGC.rf _ _ _) ((KGM.uA (k := 25) (i := nI d) (x := nI (q.1 + 1)) (by decide)).tr (gm.kg _) (Nat.le_refl _)) (Nat.le_refl _) (Nat.le_refl _) (by omega)
  have kb : s2.2.1 16 b = 104 := hb2
  have ht : TTx s2 m3 D1.1.1 b NR1 (aR (Lv d).1 + 1) (updN (sR (Lv d).1) (aR (Lv d).1) b) := TTx.hyp (k := aR (Lv d).1) (by omega) (by omega) (by omega) tr.1 kb (by omega) tr.2.1 hS'.symm
  have e17 : s2.1 17 = nI mo1 := h17
  have e22 : m3.1 22 = nI mo1 := by rw [gm.1 22 (by decide)]; exact h22
  rcases comes2 hn hR2 (by omega) hF hf (Nat.le_refl _) (fun k h1 h2 => absurd h2 (Nat.not_lt.mpr h1)) hb1 (Nat.lt_succ_self _) ht e17 e22 hmo with ⟨R', s3, m4, mo', q1, q2, q3, q4, q5, q6, q7, q8, q9, q10, q11, q12, q13, q14⟩ | ⟨q1, q2⟩
  · refine ⟨m3, s3, m4, true, eh, q1, q2, ?_⟩
    rw [if_pos rfl, if_pos rfl]
    have p4 := (p3.lw q9 q10).cc 31 (by decide) (by omega) (nI q.1)
    have kC : KGC (d + 2) NC1 s3 (uA s3 31 (nI d) (nI q.1)) := KGC.uA (by decide)
    have k13 : KGC (d + 1) NC1 s2 (uA s3 31 (nI d) (nI q.1)) := (q9.kg NC1).tr (KGC.uA (by decide)) (Nat.le_refl _)
    have m14 : KGM (d + 1) NR1 m2 m4 := ((KGM.uA (k := 25) (i := nI d) (x := nI (q.1 + 1)) (by decide)).tr (gm.kg _) (Nat.le_refl _)).tr (q10.kg NR1) (Nat.le_refl _)
    have cellC : ∀ j, 31 < j → j < 35 → (uA s3 31 (nI d) (nI q.1)).2.1 j d = s2.2.1 j d := fun j x y => by
      simp only [uA_21]; rw [if_neg (by omega), q9.2.1 j (by omega)]
    have cellM : ∀ j, 25 < j → j < 29 → m4.2.1 j d = m2.2.1 j d := fun j x y => by
      rw [q10.2.1 j (by omega), gm.2.1 j (by omega)]; simp only [uA_21]; rw [if_neg (by omega)]
    refine PRG.laid (q := q) h p4 q12 q13 q14 b1 b2 ?_ (q3.gr (Nat.lt_succ_self _) kC (KGM.rf _ _ _) (Nat.le_refl _) (Nat.le_refl _) (Nat.le_refl _))
    refine ⟨⟨by simp only [uA_21, if_true, upd_j, nI_cl (show d < 2 ^ 31 by omega)], ?_, by show q.1 ≤ 8; omega⟩, fun i hi hk => ?_, fun k hk => ?_, Or.inr ⟨?_, ?_, ?_, ?_, ?_, ?_, ?_⟩, ⟨k1, fun x => ?_, fun x => ?_⟩, fun x => ?_, fun x => ?_, fun x => ?_, fun x => ?_, fun x => ?_, fun x => ?_, fun x => ?_⟩
    · rw [q10.2.1 25 (by decide), gm.2.1 25 (by decide)]; simp only [uA_21, if_true, upd_j, nI_cl (show d < 2 ^ 31 by omega)]
    · obtain ⟨j, hj, ej⟩ := keepV (t := D1.1) wv i hi hk
      exact ⟨j, Nat.lt_of_lt_of_le hj q7, (q8 j hj).trans ej⟩
    · rw [q6]; exact hSk k hk
    · show q.1 ∈ _; rcases hmem with e | e | e <;> (rw [e]; decide)
    · rw [q5]
    · rw [q6]; show _ = q.2.2.2.2; rw [hqb]; exact hS'
    · show _ = nI q.2.2.2.2; rw [hqb, cellC 34 (by decide) (by decide)]; exact hb3
    · show q.2.2.2.2 < _; rw [hqb]; exact hb1
    · show (uA s3 31 (nI d) (nI q.1)).2.1 16 q.2.2.2.2 = 104
      rw [hqb, k13.2.2 16 b (by decide) (by decide) hb1]; exact hb2
    · show FRE (Lv d).1 q.2.2.2.2; rw [hqb]; exact hb4
    · have x : q.1 ∈ [2, 3] := x
      simp only [List.mem_cons, List.not_mem_nil, or_false] at x; omega
    · have x : q.1 ∈ [6, 7] := x
      simp only [List.mem_cons, List.not_mem_nil, or_false] at x; omega
    · have x : q.1 = 3 := x; omega
    · obtain ⟨y1, y2, y3, y4, y5⟩ := k5 x
      refine ⟨?_, ?_, y3, by show q.2.2.2.1 < NR1 + 1; omega, ?_⟩
      · rw [cellC 33 (by decide) (by decide)]; exact y1
      · rw [cellM 27 (by decide) (by decide)]; exact y2
      · show TTx _ _ _ q.2.2.1 q.2.2.2.1 (aR (Lv d).1 + 1) (updN (sR (Lv d).1) (aR (Lv d).1) q.2.2.2.2)
        rw [hqb]
        exact y5.kg (Nat.le_refl _) (fun _ _ => rfl) k13 m14 y3 y4
    · obtain ⟨y1, y2, y3, y4⟩ := k45 (by
        have x : q.1 ∈ [4, 5, 8] := x
        simp only [List.mem_cons, List.not_mem_nil, or_false] at x ⊢; omega)
      exact ⟨by rw [cellC 32 (by decide) (by decide)]; exact y1, by rw [cellM 26 (by decide) (by decide)]; exact y2, y3⟩
    · exact (k45 x).2.2.2
    · have x : q.1 = 8 := x; omega
    · have x : q.1 = 6 := x; omega
    · have x : q.1 = 7 := x; omega
  · refine ⟨m3, s2, uF m3 24 (-7), false, eh, q1, q2, ?_⟩
    rw [if_neg (by decide), if_neg (by decide)]
    exact (p3.f24 (-7)).full e17 e22 rfl
/-- a formula comes in the premise's row -/
theorem PRG.come {n : Nat} (hn : 100000 ≤ n) {D D1 : HD} {Lv : Nat → LD} {d NC NR nC nM NC1 NR1 mo1 : Nat} {sC sM s m : StT} {R' : RW} {f c r k : Nat} (p : PRG D d NC NR nC nM sC sM D1 NC1 NR1 s m) (hd : d < 200) (hR : RR s m D1.1.1 NC1 NR1 (d + 1) R') (h17 : s.1 17 = nI mo1) (h22 : m.1 22 = nI mo1) (hmo : mo1 ≤ 60) (hf : f < D1.1.1) (hk : k ≤ aR R') (hkc : ∀ z, k ≤ z → z < aR R' → NBx s c (sR R' z)) (hc : c < NC1) (hr : r < NR1) (ht : TTx s m D1.1.1 c r k (sR R')) :
    (∃ R2 s' m' mo2, f_X6_comes n s (nI (d + 1)) (nI f) (nI c) = some (1, s') ∧ f_X12_comes n m (nI (d + 1)) (nI f) (nI r) (nI k) = some (1, m') ∧ PRG D d NC NR nC nM sC sM D1 NC1 NR1 s' m' ∧ RR s' m' D1.1.1 NC1 NR1 (d + 1) R2 ∧ aR R2 = aR R' ∧ sR R2 = sR R' ∧ zz R' ≤ zz R2 ∧ (∀ i, i < zz R' → fmR R2 i = fmR R' i) ∧ LWC (d + 1) s s' ∧ LWM (d + 1) m m' ∧ s'.1 17 = nI mo2 ∧ m'.1 22 = nI mo2 ∧ mo2 ≤ 60)
    ∨ (f_X6_comes n s (nI (d + 1)) (nI f) (nI c) = some (0, s) ∧ f_X12_comes n m (nI (d + 1)) (nI f) (nI r) (nI k) = some (0, uF m 24 (-7)) ∧ OUT n D Lv d NC NR nC nM sC sM (some (-7, s)) (some (3, uF m 24 (-7)))) := by
  have hF := p.2.2.2.2.2.1.2.2.1.2.1
  rcases comes2 hn hR (by omega) hF hf hk hkc hc hr ht h17 h22 hmo with ⟨R2, s3, m4, mo', q1, q2, q3, q4, q5, q6, q7, q8, q9, q10, q11, q12, q13, q14⟩ | ⟨q1, q2⟩
  · exact Or.inl ⟨R2, s3, m4, mo', q1, q2, p.lw q9 q10, q3, q5, q6, q7, q8, q9, q10, q12, q13, q14⟩
  · exact Or.inr ⟨q1, q2, (p.f24 (-7)).full h17 h22 rfl⟩
/-- the premise is the same sequent but for LEFT -/
theorem same_fin {n : Nat} {D D1 : HD} {Lv : Nat → LD} {d NC NR nC nM mo NC1 NR1 mo1 w : Nat} {sC sM s m : StT} {R' : RW} (h : PRE D Lv d NC NR nC nM mo sC sM) (p : PRG D d NC NR nC nM sC sM D1 NC1 NR1 s m) (h17 : s.1 17 = nI mo1) (h22 : m.1 22 = nI mo1) (hmo : mo1 ≤ 60) (b1 : NC1 ≤ NC + 8) (b2 : NR1 ≤ NR + 11) (h25 : m.2.1 25 d = nI 1) (hR : RR s m D1.1.1 NC1 NR1 (d + 1) R') (wv : zz (Lv d).1 ≤ w ∨ D1.1.2.1 (fmR (Lv d).1 w) ≠ 2) (e1 : aR R' = aR (Lv d).1) (e2 : ∀ k, k < aR (Lv d).1 → sR R' k = sR (Lv d).1 k) (e3 : nz (zz (Lv d).1) w ≤ zz R') (e4 : ∀ j, j < nz (zz (Lv d).1) w → fmR R' j = fmR (Lv d).1 (skp w j)) : OUT n D Lv d NC NR nC nM sC sM (some (2, uA s 31 (nI d) 0)) (f_X12_begin n m) := by
  have hd := h.2.2.2.2.2.2.1
  have p4 := p.cc 31 (by decide) (by omega) 0
  refine PRG.laid (q := (0, 0, 0, 0, 0)) h p4 h17 h22 hmo b1 b2 ?_ (hR.gr (Nat.lt_succ_self _) (KGC.uA (by decide)) (KGM.rf _ _ _) (Nat.le_refl _) (Nat.le_refl _) (Nat.le_refl _))
  refine ⟨⟨by simp only [uA_21, if_true, upd_j, nI_cl (show d < 2 ^ 31 by omega)]; rfl, h25, show (0 : Nat) ≤ 8 by decide⟩, fun i hi hk => ?_, e2, Or.inl ⟨show 0 ∈ [0, 2, 3, 6, 7] by decide, e1⟩, ⟨fun x => absurd (show (0 : Nat) = 1 from x) (by decide), fun x => absurd (show 0 ∈ [2, 3] from x) (by decide), fun x => absurd (show 0 ∈ [6, 7] from x) (by decide)⟩, fun x => absurd (show (0 : Nat) = 3 from x) (by decide), fun x => absurd (show (0 : Nat) = 5 from x) (by decide), fun x => absurd (show 0 ∈ [4, 5, 8] from x) (by decide), fun x => absurd (show 0 ∈ [4, 5] from x) (by decide), fun x => absurd (show (0 : Nat) = 8 from x) (by decide), fun x => absurd (show (0 : Nat) = 6 from x) (by decide), fun x => absurd (show (0 : Nat) = 7 from x) (by decide)⟩
  obtain ⟨j, hj, ej⟩ := keepV (t := D1.1) wv i hi hk
  exact ⟨j, by omega, (e4 j hj).trans ej⟩
