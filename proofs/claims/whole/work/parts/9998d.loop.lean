/-! ===== the main loops ===== -/
theorem INL.pre {D : HD} {Lv : Nat → LD} {d NC NR nC nM mo st lim dp turn : Nat} {sC sM : StT} (h : INL D Lv d NC NR nC nM mo st lim dp turn sC sM) (hd : d < 200) (hst : st < lim) : PRE D Lv d NC NR nC nM mo (hdC sC d st dp) (hdM sM d st dp) ∧ YC sC (hdC sC d st dp) ∧ YM sM (hdM sM d st dp) ∧ (∃ dp', NB (hdC sC d st dp) (hdM sM d st dp) (st + 1) lim dp') ∧ (hdM sM d st dp).1 19 = nI d := by
  obtain ⟨hS, hLO, hRR, hB, hL, _, ⟨n1, n2, n3, n4, n5, n6, n7, n8, n9⟩, h19, hT, b1, b2, b3, b4⟩ := h
  have cF : ∀ j, j ≠ 20 → j ≠ 21 → (hdC sC d st dp).1 j = sC.1 j := fun j x y => by unfold hdC; simp only [uA_1, uF_1]; rw [if_neg y, if_neg x]
  have cA : ∀ j, j ≠ 29 → j ≠ 30 → (hdC sC d st dp).2.1 j = sC.2.1 j := fun j x y => by unfold hdC; simp only [uA_21, uF_2]; rw [if_neg y, if_neg x]
  have cD : ∀ j i, i ≠ d → (hdC sC d st dp).2.1 j i = sC.2.1 j i := fun j i x => by
    unfold hdC; simp only [uA_21, uF_2]
    by_cases c : j = 30
    · rw [if_pos c, upd_j, nI_cl (show d < 2 ^ 31 by omega), if_neg x, if_neg (by omega)]
    · rw [if_neg c]
      by_cases c2 : j = 29
      · rw [if_pos c2, upd_j, nI_cl (show d < 2 ^ 31 by omega), if_neg x]
      · rw [if_neg c2]
  have c29 : (hdC sC d st dp).2.1 29 d = -1 := by unfold hdC; simp only [uA_21, if_neg (show ¬ (29 : Nat) = 30 by decide), if_true, upd_j, nI_cl (show d < 2 ^ 31 by omega)]
  have c30 : (hdC sC d st dp).2.1 30 d = -1 := by unfold hdC; simp only [uA_21, if_true, upd_j, nI_cl (show d < 2 ^ 31 by omega)]
  have mF : ∀ j, j ≠ 19 → j ≠ 20 → j ≠ 23 → (hdM sM d st dp).1 j = sM.1 j := fun j x y z => by unfold hdM; simp only [uA_1, uF_1]; rw [if_neg z, if_neg y, if_neg x]
  have mA : ∀ j, j ≠ 25 → j ≠ 28 → (hdM sM d st dp).2.1 j = sM.2.1 j := fun j x y => by unfold hdM; simp only [uA_21, uF_2]; rw [if_neg y, if_neg x]
  have mD : ∀ j i, i ≠ d → (hdM sM d st dp).2.1 j i = sM.2.1 j i := fun j i x => by
    unfold hdM; simp only [uA_21, uF_2]
    by_cases c : j = 28
    · rw [if_pos c, upd_j, nI_cl (show d < 2 ^ 31 by omega), if_neg x, if_neg (by omega)]
    · rw [if_neg c]
      by_cases c2 : j = 25
      · rw [if_pos c2, upd_j, nI_cl (show d < 2 ^ 31 by omega), if_neg x]
      · rw [if_neg c2]
  have m28 : (hdM sM d st dp).2.1 28 d = -1 := by unfold hdM; simp only [uA_21, if_true, upd_j, nI_cl (show d < 2 ^ 31 by omega)]
  have kC : ∀ e, KGC e NC sC (hdC sC d st dp) := fun e => ⟨fun j r p _ => by rw [cA j (by omega) (by omega)], fun j r p _ => by rw [cA j (by omega) (by omega)], fun j r p q _ => by rw [cA j (by omega) (by omega)]⟩
  have kM : ∀ e, KGM e NR sM (hdM sM d st dp) := fun e => ⟨fun j r p _ => by rw [mA j (by omega) (by omega)], fun j r p _ => by rw [mA j (by omega) (by omega)], fun j r p q _ => by rw [mA j (by omega) (by omega)]⟩
  have hHS : HS D (hdC sC d st dp) (hdM sM d st dp) := hS.1.mv (cF 6 (by decide) (by decide)) (cF 7 (by decide) (by decide)) (fun j x y => cA j (by omega) (by omega)) rfl (mF 0 (by decide) (by decide) (by decide)) (mF 2 (by decide) (by decide) (by decide)) (fun j x => mA j (by omega) (by omega))
  have e1 : bCL (Lv d) = nC := by show (Lv d).2.2.1.1 = _; rw [hB]
  have e2 : bML (Lv d) = nM := by show (Lv d).2.2.1.2.1 = _; rw [hB]
  have e3 : nCL (Lv d) = nC := by show (Lv d).2.2.1.2.2.1 = _; rw [hB]
  have e4 : nML (Lv d) = nM := by show (Lv d).2.2.1.2.2.2 = _; rw [hB]
  refine ⟨⟨⟨hHS, (cF 16 (by decide) (by decide)).trans hS.2.1, (mF 18 (by decide) (by decide) (by decide)).trans hS.2.2.1, (cF 18 (by decide) (by decide)).trans hS.2.2.2.1, (mF 30 (by decide) (by decide) (by decide)).trans hS.2.2.2.2.1, (cF 17 (by decide) (by decide)).trans hS.2.2.2.2.2.1, (mF 22 (by decide) (by decide) (by decide)).trans hS.2.2.2.2.2.2.1, hS.2.2.2.2.2.2.2⟩, hLO.gr hS.1.2.2.1 ⟨kC d, fun j r _ _ z => cD j r (by omega), fun j r x y _ => by rw [cA j (by omega) (by omega)]⟩ ⟨kM d, fun j r _ _ z => mD j r (by omega), fun j r x y _ => by rw [mA j (by omega) (by omega)]⟩ (Nat.le_refl _) (fun _ _ => ⟨rfl, rfl, rfl⟩) (Nat.le_refl _) (Nat.le_refl _), hRR.gr (Nat.lt_succ_self d) (kC _) (kM _) (Nat.le_refl _) (Nat.le_refl _) (Nat.le_refl _), ?_, by omega, by omega, hd, by omega, by omega, by omega, by omega⟩, ⟨fun j _ _ _ _ x y _ => cF j x y, fun j p => cA j (by omega) (by omega), rfl⟩, ⟨fun j _ _ x y _ z _ _ _ _ => mF j x y z, fun j p => mA j (by omega) (by omega), rfl⟩, ⟨if dp < d + 1 then d + 1 else dp, rfl, rfl, (cF 19 (by decide) (by decide)).trans n3, (mF 21 (by decide) (by decide) (by decide)).trans n4, rfl, rfl, by omega, n8, by split <;> omega⟩, rfl⟩
  rw [e1, e2, e3, e4, hL]
  exact ⟨Nat.le_refl _, by omega, by omega, Nat.le_refl _, fun k hk => absurd hk List.not_mem_nil, Or.inl ⟨rfl, c29, c30, m28⟩⟩
/-- a level has ended: d levels wait -/
def INE (D : HD) (Lv : Nat → LD) (d NC NR nC nM mo st lim dp turn : Nat) (ok : Bool) (sC sM : StT) : Prop :=
  SB sC sM D NC NR nC nM mo ∧ LO sC sM D.1 NC NR d Lv ∧ (∀ i, i < zz (Lv d).1 → fmR (Lv d).1 i < D.1.1) ∧ (bCL (Lv d) ≤ nC ∧ bML (Lv d) ≤ nM) ∧ d ≤ 200 ∧ NB sC sM st lim dp ∧ sM.1 19 = nI d + -1 ∧ turn + d + 1 = 2 * st ∧ NC + d ≤ 20 + 9 * st ∧ NR + 2 * d ≤ 20 + 13 * st ∧ nC + d ≤ st ∧ nM + sE Lv d ≤ st ∧
  ((ok = true ∧ ∃ c r, c < NC ∧ r < NR ∧ sC.1 24 = nI c ∧ sM.1 25 = nI r ∧ TTx sC sM D.1.1 c r (aR (Lv d).1) (sR (Lv d).1)) ∨ (ok = false ∧ ∃ p, FW sC sM (bCL (Lv d)) (bML (Lv d)) nC nM (mkL D.1 (Lv d)) p ∧ sC.1 24 = nI p.2.1 ∧ sM.1 26 = nI p.2.2.2.2.1))
/-- how the search ends, on both sides -/
def FIN (D : HD) (R0 : RW) (NC : Nat) (sC sM : StT) (rc rm : Option (Int32 × StT)) : Prop := ∃ (ans : Int32) (D' : HD) (sC' sM' : StT), rc = some (ans, sC') ∧ rm = some (ans, sM') ∧ (YC sC sC' ∧ KGC 0 NC sC sC') ∧ YM sM sM' ∧ Gd D D' ∧ HS D' sC' sM' ∧ sC'.1 20 = sM'.1 20 ∧ sC'.1 21 = sM'.1 23 ∧ sC'.1 17 = sM'.1 22 ∧
  (ans = -7 ∨ ans = -6 ∨ (ans = 1 ∧ ∃ c r, (c < 30027 ∧ ∃ N, c < N ∧ N ≤ 30027 ∧ sC'.1 16 = nI N) ∧ r < 60000 ∧ sC'.1 24 = nI c ∧ sM'.1 25 = nI r ∧ TTx sC' sM' D'.1.1 c r (aR R0) (sR R0)) ∨ (ans = 0 ∧ ∃ p bC bM nC nM mk, nC ≤ 2000 ∧ nM ≤ 2000 ∧ sC'.1 18 = nI nC ∧ sM'.1 30 = nI nM ∧ FW sC' sM' bC bM nC nM mk p ∧ sC'.1 24 = nI p.2.1 ∧ sM'.1 26 = nI p.2.2.2.2.1))
theorem FIN.fr {D D1 : HD} {R0 : RW} {NC N1 : Nat} {sC sM s m : StT} {rc rm : Option (Int32 × StT)} (yC : YC sC s) (kC : KGC 0 NC sC s) (hN : NC ≤ N1) (yM : YM sM m) (g : Gd D D1) (h : FIN D1 R0 N1 s m rc rm) : FIN D R0 NC sC sM rc rm := by
  obtain ⟨ans, D', s', m', a1, a2, a3, a4, a5, a6⟩ := h
  exact ⟨ans, D', s', m', a1, a2, ⟨yC.tr a3.1, kC.tr a3.2 hN⟩, yM.tr a4, g.tr a5, a6⟩
/-- the turns of the class's search, without what is kept behind them -/
def f_X5_decide_36 (n : Nat) (k6 : StT → Int32 → Int32 → Int32 → Option (Int32 × StT)) (st : StT) (x1 : Int32) (x3 : Int32) (y0 : Int32) : Option (Int32 × StT) := if y0 = (-6 : Int32) then (some (y0, st)) else (if y0 = (-7 : Int32) then (some (y0, st)) else (if y0 = (2 : Int32) then (k6 st (x1 + (1 : Int32)) y0 (x3 + (1 : Int32))) else (if y0 < 0 then none else (k6 st (x1 + (-1 : Int32)) y0 (x3 + (1 : Int32))))))
def f_X5_decide_6 (n : Nat) : Nat → StT → Int32 → Int32 → Int32 → Option (Int32 × StT)
  | 0, _, _, _, _ => none
  | k + 1, st, x1, x2, x3 => if (4002 : Int32) ≤ x3 then none else (if x1 < 0 then (some (x2, st)) else (if x2 = (2 : Int32) then ((f_X5_begin n st x1).bind fun q24 => (f_X5_decide_36 n (f_X5_decide_6 n k) q24.2 x1 x3 q24.1)) else ((f_X5_goOn n st x1 x2).bind fun q33 => (f_X5_decide_36 n (f_X5_decide_6 n k) q33.2 x1 x3 q33.1))))
/-- so the turns end, so does the search -/
theorem run_dec {n : Nat} : ∀ (fu : Nat) (s : StT) (d oc turn ans : Int32) (s' : StT), f_X5_decide_6 n fu s d oc turn = some (ans, s') → ¬ oc < 0 → f_X5_run_1_101 n (fu + 1) s d oc turn = some (ans, uF s' 22 ans) := by
  intro fu
  induction fu with
  | zero =>
    intro s d oc turn ans s' h _
    rw [f_X5_decide_6] at h
    cases h
  | succ fu ih =>
    intro s d oc turn ans s' h ho
    rw [f_X5_decide_6] at h
    rw [f_X5_run_1_101]
    by_cases c1 : (4002 : Int32) ≤ turn
    · rw [if_pos c1] at h; cases h
    rw [if_neg c1] at h ⊢
    by_cases c2 : d < 0
    · rw [if_pos c2] at h ⊢
      cases h
      rfl
    rw [if_neg c2] at h ⊢
    rw [if_neg ho]
    have tail : ∀ q : Int32 × StT, f_X5_decide_36 n (f_X5_decide_6 n fu) q.2 d turn q.1 = some (ans, s') → f_X5_run_1_159 n (f_X5_run_1_101 n (fu + 1)) q.2 d q.1 turn = some (ans, uF s' 22 ans) := by
      intro q hq
      unfold f_X5_decide_36 at hq
      unfold f_X5_run_1_159
      have ex : ∀ x : Int32, q.1 < 0 → f_X5_run_1_101 n (fu + 1) q.2 x q.1 (turn + 1) = some (q.1, uF q.2 22 q.1) := by
        intro x hx
        rw [f_X5_run_1_101, if_pos hx, ite_self, ite_self]
        rfl
      by_cases e6 : q.1 = -6
      · rw [if_pos e6] at hq
        rw [if_neg (show ¬ q.1 = 2 by rw [e6]; decide), ex _ (by rw [e6]; decide)]
        cases hq
        rfl
      rw [if_neg e6] at hq
      by_cases e7 : q.1 = -7
      · rw [if_pos e7] at hq
        rw [if_neg (show ¬ q.1 = 2 by rw [e7]; decide), ex _ (by rw [e7]; decide)]
        cases hq
        rfl
      rw [if_neg e7] at hq
      by_cases e2 : q.1 = 2
      · rw [if_pos e2] at hq ⊢
        exact ih _ _ _ _ _ _ hq (by rw [e2]; decide)
      rw [if_neg e2] at hq ⊢
      by_cases en : q.1 < 0
      · rw [if_pos en] at hq; cases hq
      rw [if_neg en] at hq
      exact ih _ _ _ _ _ _ hq en
    by_cases c3 : oc = 2
    · rw [if_pos c3] at h ⊢
      cases hb : f_X5_begin n s d with
      | none => rw [hb] at h; cases h
      | some q =>
        rw [hb, Option.bind_some] at h
        rw [Option.bind_some]
        exact tail q h
    rw [if_neg c3] at h ⊢
    unfold f_X5_goOn at h
    rw [if_neg c2] at h
    by_cases c200 : d < 200
    · rw [if_pos c200] at h
      by_cases c4 : oc = 1
      · rw [if_pos c4] at h ⊢
        cases hb : f_X5_goOnProved n s d with
        | none => rw [hb] at h; cases h
        | some q =>
          rw [hb, Option.bind_some] at h
          rw [Option.bind_some]
          exact tail q h
      · rw [if_neg c4] at h ⊢
        cases hb : f_X5_goOnFailed n s d with
        | none => rw [hb] at h; cases h
        | some q =>
          rw [hb, Option.bind_some] at h
          rw [Option.bind_some]
          exact tail q h
    · rw [if_neg c200] at h; cases h
def IHK (n fu fu' turn : Nat) : Prop :=
  (∀ (D : HD) (Lv : Nat → LD) (d NC NR nC nM mo st lim dp : Nat) (sC sM : StT), INL D Lv d NC NR nC nM mo st lim dp turn sC sM → FIN D (Lv 0).1 NC sC sM (f_X5_decide_6 n fu sC (nI d) 2 (nI turn)) ((f_X12_begin n sM).bind fun q6 => (f_X12_search_10 n fu' q6.2 q6.1))) ∧
  (∀ (D : HD) (Lv : Nat → LD) (d NC NR nC nM mo st lim dp : Nat) (ok : Bool) (sC sM : StT), INE D Lv d NC NR nC nM mo st lim dp turn ok sC sM → FIN D (Lv 0).1 NC sC sM (f_X5_decide_6 n fu sC (nI d + -1) (mI ok) (nI turn)) (f_X12_search_10 n fu' sM (mI ok)))
theorem em_le (A : LD) : em A ≤ 1 := by unfold em; split <;> omega
theorem turnEnd {n fu fu' turn : Nat} (ih : IHK n fu (fu' + 1) (turn + 1)) {D : HD} {Lv : Nat → LD} {d NC NR nC nM st lim dp : Nat} {s m : StT} {rc rm : Option (Int32 × StT)} (hd : d < 200) (hb : ∀ i, i < zz (Lv d).1 → fmR (Lv d).1 i < D.1.1) (hlt : bCL (Lv d) ≤ nC ∧ bML (Lv d) ≤ nM) (hN : NB s m st lim dp) (h19 : m.1 19 = nI d) (hT : turn + d + 2 = 2 * st) (b1 : NC + d + 1 ≤ 20 + 9 * st) (b2 : NR + 2 * d + 2 ≤ 20 + 13 * st) (b3 : nC + d + 1 ≤ st) (b4 : nM + sE Lv d + em (Lv d) ≤ st) (o : OUT n D Lv d NC NR nC nM s m rc rm) : FIN D (Lv 0).1 NC s m (rc.bind fun q => f_X5_decide_36 n (f_X5_decide_6 n fu) q.2 (nI d) (nI turn) q.1) (rm.bind fun q => f_X12_search_69 n (f_X12_search_10 n (fu' + 1)) q.2 q.1 (nI d)) := by
  obtain ⟨D', NC', NR', nC', nM', mo', s', m', ⟨xC, kC⟩, xM, g, hHS, o⟩ := o
  obtain ⟨n1, n2, n3, n4, n5, n6, n7, n8, n9⟩ := hN
  have hN' : NB s' m' st lim dp := ⟨(xC.1 20 (by decide) (by decide) (by decide) (by decide) (by decide)).trans n1, (xM.1 20 (by decide) (by decide) (by decide) (by decide) (by decide) (by decide) (by decide)).trans n2, (xC.1 19 (by decide) (by decide) (by decide) (by decide) (by decide)).trans n3, (xM.1 21 (by decide) (by decide) (by decide) (by decide) (by decide) (by decide) (by decide)).trans n4, (xC.1 21 (by decide) (by decide) (by decide) (by decide) (by decide)).trans n5, (xM.1 23 (by decide) (by decide) (by decide) (by decide) (by decide) (by decide) (by decide)).trans n6, n7, n8, n9⟩
  have h19' : m'.1 19 = nI d := (xM.1 19 (by decide) (by decide) (by decide) (by decide) (by decide) (by decide) (by decide)).trans h19
  rcases o with ⟨o1, o2, o3, o4, o5⟩ | ⟨hS, l1, l2, l3, l4, hLO, o⟩
  · refine ⟨-7, D', s', m', ?_, ?_, ⟨xC.y, kC⟩, xM.y, g, hHS, hN'.1.trans hN'.2.1.symm, hN'.2.2.2.2.1.trans hN'.2.2.2.2.2.1.symm, o4.trans o5.symm, Or.inl rfl⟩
    · rw [o1, Option.bind_some]; rfl
    · rw [o2, Option.bind_some]
      unfold f_X12_search_69 f_X12_search_81
      rw [if_pos (show (2 : Int32) ≤ 3 by decide), if_pos rfl, o3]
  · refine FIN.fr xC.y kC l1 xM.y g ?_
    have hb' : ∀ i, i < zz (Lv d).1 → fmR (Lv d).1 i < D'.1.1 := fun i hi => Nat.lt_of_lt_of_le (hb i hi) g.1
    -- what the reference goes on with after an end
    have y19 : YM m' (uF m' 19 (nI d + -1)) := ⟨fun j _ _ x _ _ _ _ _ _ _ => by simp only [uF_1]; rw [if_neg x], fun _ _ => rfl, rfl⟩
    have hHS' : HS D' s' (uF m' 19 (nI d + -1)) := hHS.mv rfl rfl (fun _ _ _ => rfl) rfl rfl rfl (fun _ _ => rfl)
    have hS' : SB s' (uF m' 19 (nI d + -1)) D' NC' NR' nC' nM' mo' := ⟨hHS', hS.2.1, hS.2.2.1, hS.2.2.2.1, hS.2.2.2.2.1, hS.2.2.2.2.2.1, hS.2.2.2.2.2.2.1, hS.2.2.2.2.2.2.2⟩
    have hLO' : LO s' (uF m' 19 (nI d + -1)) D'.1 NC' NR' d Lv := hLO.gr hHS.2.2.1 (FLC.rf _ _ _ _) ⟨KGM.uF, fun _ _ _ _ _ => rfl, fun _ _ _ _ _ => rfl⟩ (Nat.le_refl _) (fun _ _ => ⟨rfl, rfl, rfl⟩) (Nat.le_refl _) (Nat.le_refl _)
    have eS : ∀ ok : Bool, f_X12_search_69 n (f_X12_search_10 n (fu' + 1)) m' (mI ok) (nI d) = f_X12_search_10 n (fu' + 1) (uF m' 19 (nI d + -1)) (mI ok) := fun ok => by
      unfold f_X12_search_69 f_X12_search_81
      rw [if_neg (show ¬ (2 : Int32) ≤ mI ok by cases ok <;> decide), if_neg (show ¬ mI ok = (3 : Int32) by cases ok <;> decide), show nI d - (1 : Int32) = nI d + -1 from Int32.sub_eq_add_neg _ _]
    have eD : ∀ ok : Bool, f_X5_decide_36 n (f_X5_decide_6 n fu) s' (nI d) (nI turn) (mI ok) = f_X5_decide_6 n fu s' (nI d + -1) (mI ok) (nI (turn + 1)) := fun ok => by
      unfold f_X5_decide_36
      rw [if_neg (show ¬ mI ok = (-6 : Int32) by cases ok <;> decide), if_neg (show ¬ mI ok = (-7 : Int32) by cases ok <;> decide), if_neg (show ¬ mI ok = (2 : Int32) by cases ok <;> decide), if_neg (show ¬ mI ok < (0 : Int32) by cases ok <;> decide), nI_1]
    have nbu : NB s' (uF m' 19 (nI d + -1)) st lim dp := hN'
    rcases o with ⟨o1, o2, o3, o4, o5, o6, c, r, o7, o8, o9, o10, o11⟩ | ⟨o1, o2, o3, o4, o5, o6, p, o7, o8, o9⟩ | ⟨o1, o2, o3, o4, o5, A, B, o6, o7, o8, o9, o10, o11⟩
    · have := FIN.fr (R0 := (Lv 0).1) (XC.rf s').y (KGC.rf 0 NC' s') (Nat.le_refl _) y19 (Gd.rf D') (ih.2 D' Lv d NC' NR' nC' nM' mo' st lim dp true s' (uF m' 19 (nI d + -1)) ⟨hS', hLO', hb', ⟨by omega, by omega⟩, by omega, nbu, rfl, by omega, by omega, by omega, by omega, by omega, Or.inl ⟨rfl, c, r, o7, o8, o9, o10, o11.kg (e := 0) (Nat.le_refl _) (fun _ _ => rfl) (KGC.rf 0 NC' s') KGM.uF o7 o8⟩⟩)
      rw [o1, o2, Option.bind_some, Option.bind_some]
      have e1 := eD true
      have e2 := eS true
      rw [show mI true = (1 : Int32) from rfl] at e1 e2 this
      simp only []
      rw [e1, e2]
      exact this
    · have := FIN.fr (R0 := (Lv 0).1) (XC.rf s').y (KGC.rf 0 NC' s') (Nat.le_refl _) y19 (Gd.rf D') (ih.2 D' Lv d NC' NR' nC' nM' mo' st lim dp false s' (uF m' 19 (nI d + -1)) ⟨hS', hLO', hb', ⟨by omega, by omega⟩, by omega, nbu, rfl, by omega, by omega, by omega, by omega, by omega, Or.inr ⟨rfl, p, ⟨by
          obtain ⟨hh, q⟩ := o7.1
          exact ⟨hh, q.mv (Nat.le_refl _) (fun _ _ _ _ _ => rfl) (fun _ _ _ => rfl) (fun _ _ _ _ _ => rfl) (fun _ _ _ _ => rfl)⟩, o7.2⟩, o8, o9⟩⟩)
      rw [o1, o2, Option.bind_some, Option.bind_some]
      have e1 := eD false
      have e2 := eS false
      rw [show mI false = (0 : Int32) from rfl] at e1 e2 this
      simp only []
      rw [e1, e2]
      exact this
    · have ue : upL Lv d A B (d + 1) = B := by unfold upL; rw [if_neg (by omega), if_pos rfl]
      have ud : upL Lv d A B d = A := by unfold upL; rw [if_pos rfl]
      have u0 : (upL Lv d A B 0).1 = (Lv 0).1 := by
        by_cases c : d = 0
        · have := ud; rw [c] at this ⊢; rw [this, o6, c]
        · unfold upL; rw [if_neg (by omega), if_neg (by omega)]
      have := ih.1 D' (upL Lv d A B) (d + 1) NC' NR' nC' nM' mo' st lim dp s' m' ⟨hS, o8, by rw [ue]; exact o9, by rw [ue]; exact o10, by rw [ue]; exact o11, by omega, hN', by rw [h19', ← nI_1, Int32.add_assoc]; exact (Int32.add_zero _).symm, by omega, by omega, by omega, by omega, by
        show nM' + (sE (upL Lv d A B) d + em (upL Lv d A B d)) ≤ st
        rw [ud, sE_cg (Lv := Lv) (fun k hk => by unfold upL; rw [if_neg (by omega), if_neg (by omega)])]
        omega⟩
      rw [u0] at this
      rw [o1, o2, Option.bind_some, search_laid]
      have e1 : f_X5_decide_36 n (f_X5_decide_6 n fu) s' (nI d) (nI turn) 2 = f_X5_decide_6 n fu s' (nI (d + 1)) 2 (nI (turn + 1)) := by
        unfold f_X5_decide_36
        rw [if_neg (show ¬ (2 : Int32) = -6 by decide), if_neg (show ¬ (2 : Int32) = -7 by decide), if_pos rfl, nI_1, nI_1]
      simp only []
      rw [e1]
      exact this
