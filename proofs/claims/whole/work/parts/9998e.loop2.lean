/-! ===== the main loops, by induction on the turns ===== -/
theorem search_3 {n k : Nat} {s : StT} : f_X12_search_10 n (k + 1) s 3 = some (s.1 24, s) := by
  unfold f_X12_search_10 f_X12_search_94
  rw [if_neg (show ¬ (3 : Int32) = 2 by decide), if_pos rfl, if_pos (show (2 : Int32) ≤ 3 by decide)]
  split <;> rfl
theorem loopL {n fu fu' turn : Nat} (hn : 100000 ≤ n) (ih : IHK n fu (fu' + 1) (turn + 1)) {D : HD} {Lv : Nat → LD} {d NC NR nC nM mo st lim dp : Nat} {sC sM : StT} (h : INL D Lv d NC NR nC nM mo st lim dp turn sC sM) : FIN D (Lv 0).1 NC sC sM (f_X5_decide_6 n (fu + 1) sC (nI d) 2 (nI turn)) ((f_X12_begin n sM).bind fun q6 => (f_X12_search_10 n (fu' + 1 + 1) q6.2 q6.1)) := by
  have hI := h
  obtain ⟨hS, hLO, hRR, hB, hL, hd, hNB, h19, hT, b1, b2, b3, b4⟩ := h
  obtain ⟨n1, n2, n3, n4, n5, n6, n7, n8, n9⟩ := hNB
  have eC : f_X5_decide_6 n (fu + 1) sC (nI d) 2 (nI turn) = ((f_X5_begin n sC (nI d)).bind fun q => f_X5_decide_36 n (f_X5_decide_6 n fu) q.2 (nI d) (nI turn) q.1) := by
    rw [f_X5_decide_6, if_neg (show ¬ (4002 : Int32) ≤ nI turn from fun x => absurd ((nI_leI (a := 4002) (by omega) (by omega)).mp x) (by omega)), if_neg (nI_nneg (by omega)), if_pos rfl]
  rw [eC]
  have e17 : sC.1 17 = sM.1 22 := hS.2.2.2.2.2.1.trans hS.2.2.2.2.2.2.1.symm
  by_cases c : d = 200
  · refine ⟨-7, D, sC, uF sM 24 (-7), ?_, ?_, ⟨(XC.rf _).y, KGC.rf _ _ _⟩, (XM.f (by decide)).y, Gd.rf _, hS.1.mv rfl rfl (fun _ _ _ => rfl) rfl rfl rfl (fun _ _ => rfl), n1.trans n2.symm, n5.trans n6.symm, e17, Or.inl rfl⟩
    · unfold f_X5_begin
      rw [if_neg (nI_nneg (by omega)), if_neg (show ¬ nI d < (200 : Int32) from fun x => absurd ((nI_ltI (b := 200) (by omega) (by omega)).mp x) (by omega)), Option.bind_some]
      rfl
    · have e : f_X12_begin n sM = some (3, uF sM 24 (-7)) := by
        unfold f_X12_begin
        rw [h19, c, if_pos (show nI 200 + -1 = (199 : Int32) by decide)]
      rw [e, Option.bind_some, search_3]
      rfl
  · by_cases c2 : st = lim
    · have e19 : nI d + -1 + (1 : Int32) = nI d := by rw [Int32.add_assoc]; show nI d + 0 = nI d; exact Int32.add_zero _
      have hne : ¬ nI d + -1 = (199 : Int32) := fun x => by
        have : nI d = nI 200 := by rw [← e19, x]; rfl
        have := nI_inj (by omega) (by omega) this; omega
      refine ⟨-6, D, sC, uF (uA (uF sM 19 (nI d)) 25 (nI d) 0) 24 (-6), ?_, ?_, ⟨(XC.rf _).y, KGC.rf _ _ _⟩, ⟨fun j _ _ x _ _ _ y _ _ _ => by simp only [uF_1, uA_1]; rw [if_neg y, if_neg x], fun j p => by simp only [uF_2, uA_21]; rw [if_neg (by omega)], rfl⟩, Gd.rf _, hS.1.mv rfl rfl (fun _ _ _ => rfl) rfl rfl rfl (fun j x => by simp only [uF_2, uA_21]; rw [if_neg (by omega)]), n1.trans n2.symm, n5.trans n6.symm, e17, Or.inr (Or.inl rfl)⟩
      · unfold f_X5_begin
        rw [if_neg (nI_nneg (by omega)), if_pos (show nI d < (200 : Int32) from (nI_ltI (b := 200) (by omega) (by omega)).mpr (by omega)), n1, n3, c2, if_neg (fun x => absurd ((nI_ltI (by omega) (by omega)).mp x) (by omega)), Option.bind_some]
        rfl
      · have e : f_X12_begin n sM = some (3, uF (uA (uF sM 19 (nI d)) 25 (nI d) 0) 24 (-6)) := by
          unfold f_X12_begin
          rw [h19, if_neg hne, e19]
          simp only [uF_1, uA_1, if_true, if_neg (show ¬ (20 : Nat) = 19 by decide), if_neg (show ¬ (21 : Nat) = 19 by decide), n2, n4, c2]
          rw [inB_nI (show d < 201 by omega) (by omega), if_pos rfl]
        rw [e, Option.bind_some, search_3]
        rfl
    · obtain ⟨hP, yC, yM, ⟨dp', hNB'⟩, h19'⟩ := hI.pre (by omega) (by omega)
      rw [headC (by omega) n1 n3 n5 n9 n8 (by omega), headM (by omega) n2 n4 n6 h19 n9 n8 (by omega)]
      exact FIN.fr yC ⟨fun j r p q => absurd q (by omega), fun j r p q => absurd q (by omega), fun j r p q _ => by unfold hdC; simp only [uA_21, uF_2]; rw [if_neg (by omega), if_neg (by omega)]⟩ (Nat.le_refl _) yM (Gd.rf D) (turnEnd ih (by omega) (fun i hi => (hRR.2.2.2.2.1 i hi).1) hP.lt hNB' h19' (by omega) (by omega) (by omega) (by omega) (by have := em_le (Lv d); omega) (rule_open hn hP hL))
theorem loopE {n fu fu' turn : Nat} (hn : 100000 ≤ n) (ih : IHK n fu (fu' + 1) (turn + 1)) {D : HD} {Lv : Nat → LD} {d NC NR nC nM mo st lim dp : Nat} {ok : Bool} {sC sM : StT} (h : INE D Lv d NC NR nC nM mo st lim dp turn ok sC sM) : FIN D (Lv 0).1 NC sC sM (f_X5_decide_6 n (fu + 1) sC (nI d + -1) (mI ok) (nI turn)) (f_X12_search_10 n (fu' + 1 + 1) sM (mI ok)) := by
  obtain ⟨hS, hLO, hb, hlt, hd, hNB, h19, hT, b1, b2, b3, b4, hR⟩ := h
  have hNB0 := hNB
  obtain ⟨n1, n2, n3, n4, n5, n6, n7, n8, n9⟩ := hNB
  have e17 : sC.1 17 = sM.1 22 := hS.2.2.2.2.2.1.trans hS.2.2.2.2.2.2.1.symm
  have m2 : ¬ mI ok = (2 : Int32) := by cases ok <;> decide
  have m3 : ¬ mI ok = (3 : Int32) := by cases ok <;> decide
  have m4 : ¬ (2 : Int32) ≤ mI ok := by cases ok <;> decide
  have hT4 : ¬ (4002 : Int32) ≤ nI turn := fun x => absurd ((nI_leI (a := 4002) (by omega) (by omega)).mp x) (by omega)
  cases d with
  | zero =>
    have eC : f_X5_decide_6 n (fu + 1) sC (nI 0 + -1) (mI ok) (nI turn) = some (mI ok, sC) := by
      rw [f_X5_decide_6, if_neg hT4, if_pos (show nI 0 + -1 < (0 : Int32) by decide)]
    have eM : f_X12_search_10 n (fu' + 1 + 1) sM (mI ok) = some (mI ok, sM) := by
      rw [f_X12_search_10, if_neg m2, h19, if_pos (show nI 0 + -1 < (0 : Int32) by decide)]
      unfold f_X12_search_94
      rw [if_neg m3]
    refine ⟨mI ok, D, sC, sM, eC, eM, ⟨(XC.rf _).y, KGC.rf _ _ _⟩, (XM.rf _).y, Gd.rf _, hS.1, n1.trans n2.symm, n5.trans n6.symm, e17, ?_⟩
    have q0 : nM ≤ st := Nat.le_trans (Nat.le_add_right _ _) b4
    rcases hR with ⟨rfl, c, r, x1, x2, x3, x4, x5⟩ | ⟨rfl, p, x1, x2, x3⟩
    · exact Or.inr (Or.inr (Or.inl ⟨rfl, c, r, ⟨by omega, NC, x1, by omega, hS.2.1⟩, by omega, x3, x4, x5⟩))
    · exact Or.inr (Or.inr (Or.inr ⟨rfl, p, _, _, nC, nM, _, by omega, by omega, hS.2.2.2.1, hS.2.2.2.2.1, x1, x2, x3⟩))
  | succ e =>
    have e19 : nI (e + 1) + -1 = nI e := by rw [← nI_1, Int32.add_assoc]; show nI e + 0 = nI e; exact Int32.add_zero _
    rw [e19] at h19 ⊢
    have hng : ¬ nI e < (0 : Int32) := nI_nneg (by omega)
    have eC : f_X5_decide_6 n (fu + 1) sC (nI e) (mI ok) (nI turn) = ((f_X5_goOn n sC (nI e) (mI ok)).bind fun q => f_X5_decide_36 n (f_X5_decide_6 n fu) q.2 (nI e) (nI turn) q.1) := by
      rw [f_X5_decide_6, if_neg hT4, if_neg hng, if_neg m2]
    have eM : f_X12_search_10 n (fu' + 1 + 1) sM (mI ok) = ((f_X12_resumed n sM (nI e) (mI ok)).bind fun q => f_X12_search_69 n (f_X12_search_10 n (fu' + 1)) q.2 q.1 (nI e)) := by
      rw [f_X12_search_10, if_neg m2, h19, if_neg hng, if_neg m4]
      unfold f_X12_search_27
      rw [if_neg m2, h19]
    rw [eC, eM]
    obtain ⟨a1, a2, a3⟩ := hLO.1 e (Nat.lt_succ_self e)
    have hl := hLO.2 e (e + 1) (Nat.lt_succ_self e) (Nat.le_refl _)
    have b4' : nM + (sE Lv e + em (Lv e)) ≤ st := b4
    have hP : PRE D Lv e NC NR nC nM mo sC sM := ⟨hS, hLO.dn, a1, a3, by omega, by omega, by omega, by omega, by omega, by omega, by omega⟩
    refine turnEnd ih (by omega) (fun i hi => (a1.2.2.2.2.1 i hi).1) hP.lt hNB0 h19 (by omega) (by omega) (by omega) (by omega) (by omega) ?_
    rcases hR with ⟨rfl, c, r, x1, x2, x3, x4, x5⟩ | ⟨rfl, p, x1, x2, x3⟩
    · exact rule_proved hn ⟨hP, a2, x1, x2, x3, x4, x5⟩
    · exact rule_failed hn ⟨hP, a2, hb, hl.1, hl.2, x1, x2, x3, by omega⟩
theorem loop2 {n : Nat} (hn : 100000 ≤ n) : ∀ (k turn fu fu' : Nat), turn + k = 4010 → k < fu → k + 1 < fu' → IHK n fu fu' turn := by
  intro k
  induction k with
  | zero =>
    intro turn fu fu' h1 h2 h3
    refine ⟨fun D Lv d NC NR nC nM mo st lim dp sC sM h => ?_, fun D Lv d NC NR nC nM mo st lim dp ok sC sM h => ?_⟩
    · obtain ⟨_, _, _, _, _, _, ⟨_, _, _, _, _, _, n7, n8, _⟩, _, hT, _⟩ := h
      omega
    · obtain ⟨_, _, _, _, _, ⟨_, _, _, _, _, _, n7, n8, _⟩, _, hT, _⟩ := h
      omega
  | succ k ihk =>
    intro turn fu fu' h1 h2 h3
    obtain ⟨f, rfl⟩ := Nat.exists_eq_succ_of_ne_zero (show fu ≠ 0 by omega)
    obtain ⟨f1, rfl⟩ := Nat.exists_eq_succ_of_ne_zero (show fu' ≠ 0 by omega)
    obtain ⟨f2, rfl⟩ := Nat.exists_eq_succ_of_ne_zero (show f1 ≠ 0 by omega)
    have ih := ihk (turn + 1) f (f2 + 1) (by omega) (by omega) (by omega)
    exact ⟨fun D Lv d NC NR nC nM mo st lim dp sC sM h => loopL hn ih h, fun D Lv d NC NR nC nM mo st lim dp ok sC sM h => loopE hn ih h⟩
def f_X5_decide (n : Nat) (st : StT) : Option (Int32 × StT) := f_X5_decide_6 n (n - 1) st (0 : Int32) (2 : Int32) (0 : Int32)
theorem run_dec2 {n : Nat} (hn : 100000 ≤ n) {s s' : StT} {ans : Int32} (h : f_X5_decide n s = some (ans, s')) : f_X5_run_1_101 n n s 0 2 0 = some (ans, uF s' 22 ans) := by
  have := run_dec (n - 1) s 0 2 0 ans s' h (by decide)
  rw [Nat.sub_add_cancel (by omega)] at this
  exact this
/-- both searches, from a laid top level -/
theorem decide2 {n : Nat} (hn : 100000 ≤ n) {D : HD} {Lv : Nat → LD} {NC NR mo lim : Nat} {sC sM : StT} (h : INL D Lv 0 NC NR 0 0 mo 0 lim 0 0 sC (uF sM 19 (-1))) : FIN D (Lv 0).1 NC sC (uF sM 19 (-1)) (f_X5_decide n sC) (f_X12_search n sM) := (loop2 hn 4010 0 (n - 1) n (by omega) (by omega) (by omega)).1 D Lv 0 NC NR 0 0 mo 0 lim 0 sC (uF sM 19 (-1)) h
