/-! ===== proof: the class's path through a term ===== -/
def AgTC (s s' : StT) : Prop := (∀ j, j ≠ 14 → j ≠ 15 → s'.1 j = s.1 j) ∧ (∀ j, j ≠ 13 → j ≠ 14 → j ≠ 15 → j ≠ 17 → s'.2.1 j = s.2.1 j) ∧ (∀ i, s.2.1 16 i ≠ 104 → s'.2.1 17 i = s.2.1 17 i) ∧ s'.2.2 = s.2.2
theorem AgTC.rf (s : StT) : AgTC s s := ⟨fun _ _ _ => rfl, fun _ _ _ _ _ => rfl, fun _ _ => rfl, rfl⟩
theorem AgTC.tr {a b c : StT} (h : AgTC a b) (g : AgTC b c) : AgTC a c := ⟨fun j x y => (g.1 j x y).trans (h.1 j x y), fun j x y z w => (g.2.1 j x y z w).trans (h.2.1 j x y z w), fun i hi => (g.2.2.1 i (by rw [h.2.1 16 (by decide) (by decide) (by decide) (by decide)]; exact hi)).trans (h.2.2.1 i hi), g.2.2.2.trans h.2.2.2⟩
theorem AgO.toT {a b : StT} (h : AgO a b) : AgTC a b := ⟨fun j x _ => h.1 j x, fun j x _ _ _ => h.2.1 j x, fun i _ => by rw [h.2.1 17 (by decide)], h.2.2⟩
theorem AgF.toT {a b : StT} (h : AgF a b) : AgTC a b := ⟨fun j x _ => h.1 j x, fun j x y _ _ => h.2.1 j x y, fun i _ => by rw [h.2.1 17 (by decide) (by decide)], h.2.2⟩
theorem AgTC.path (s : StT) (i v : Int32) : AgTC s (uA s 15 i v) := ⟨fun _ _ _ => rfl, fun j _ _ z _ => by simp only [uA_21, z, if_false], fun i _ => by simp only [uA_21, if_neg (show ¬ (17 : Nat) = 15 by decide)], rfl⟩
theorem AgTC.around (s : StT) (v : Int32) : AgTC s (uF s 15 v) := ⟨fun j _ y => by simp only [uF_1, y, if_false], fun _ _ _ _ _ => rfl, fun _ _ => rfl, rfl⟩
theorem AgTC.numb (s : StT) {b : Nat} (hb : b < 2 ^ 31) (h : s.2.1 16 b = 104) (v : Int32) : AgTC s (uA s 17 (nI b) v) := ⟨fun _ _ _ => rfl, fun j _ _ _ z => by simp only [uA_21, z, if_false], fun i hi => by
  simp only [uA_21, if_true, upd_j, nI_cl hb]
  rw [if_neg (fun e => hi (by rw [e]; exact h))], rfl⟩
theorem CFt.agT {s s' : StT} {t : FT} (a : AgTC s s') (h : CFt s t) : CFt s' t := CFt.ag (a.1 6 (by decide) (by decide)) (a.2.1 2 (by decide) (by decide) (by decide) (by decide)) (a.2.1 3 (by decide) (by decide) (by decide) (by decide)) (a.2.1 4 (by decide) (by decide) (by decide) (by decide)) (a.2.1 5 (by decide) (by decide) (by decide) (by decide)) (a.2.1 6 (by decide) (by decide) (by decide) (by decide)) h
theorem NmC.agT {s s' : StT} {vn : Nat} {nm : Nat → List Nat} (a : AgTC s s') (h : NmC s vn nm) : NmC s' vn nm := fun v hv => by rw [a.2.2.2]; exact h v hv
theorem AgTC.a {s s' : StT} (h : AgTC s s') {j : Nat} (hj : j = 16 ∨ j = 18 ∨ j = 19 ∨ j = 20) : s'.2.1 j = s.2.1 j := h.2.1 j (by omega) (by omega) (by omega) (by omega)
/-- what the class asks of a term -/
theorem hasT {n : Nat} {s : StT} {N c : Nat} (h : s.1 16 = nI N) (hN : N ≤ 30027) (hc : c < N) : f_X7_has_T1 n s (nI c) = some (1, s) := by
  unfold f_X7_has_T1
  rw [if_neg (nI_nneg (by omega)), h, if_neg (nI_ge hc (by omega)), if_neg (show ¬ (30027 : Int32) ≤ nI c from fun e => absurd ((nI_leI (a := 30027) (by omega) (by omega)).mp e) (by omega))]
theorem hasT_m1 (n : Nat) (s : StT) : f_X7_has_T1 n s (-1) = some (0, s) := by
  unfold f_X7_has_T1
  rw [if_pos (by decide)]
theorem kindT {n : Nat} {s : StT} {N c : Nat} (h : s.1 16 = nI N) (hN : N ≤ 30027) (hc : c < N) : f_X7_kindOf_T1 n s (nI c) = some (s.2.1 16 c, s) := by
  unfold f_X7_kindOf_T1
  rw [hasT h hN hc, Option.bind_some]
  simp only []
  rw [if_neg (show ¬ (1 : Int32) = 0 by decide), inB_nI (show c < 30027 by omega) (by omega), if_pos rfl, nI_cl (by omega)]
theorem partT {n : Nat} {s : StT} {N c b : Nat} (h : s.1 16 = nI N) (hN : N ≤ 30027) (hc : c < N) (hb : b < 3) : f_X7_partOf_T1 n s (nI c) (nI b) = some (s.2.1 (17 + b) c, s) := by
  unfold f_X7_partOf_T1
  rw [hasT h hN hc, Option.bind_some]
  simp only []
  rw [if_neg (show ¬ (1 : Int32) = 0 by decide), inB_nI (show c < 30027 by omega) (by omega), if_pos rfl, if_pos rfl, if_pos rfl, nI_cl (by omega)]
  rcases (show b = 0 ∨ b = 1 ∨ b = 2 by omega) with e | e | e <;> (subst e; rfl)
theorem boundT {n : Nat} {s : StT} {N c b : Nat} {v : Int32} (h : s.1 16 = nI N) (hN : N ≤ 30027) (hc : c < N) (hb : b < N) (h20 : s.2.1 20 c = nI b) : f_X7_numberBound_T1 n s (nI c) v = some (uA s 17 (nI b) v) := by
  unfold f_X7_numberBound_T1 f_X7_numberBound_T1_18
  rw [hasT h hN hc, Option.bind_some]
  simp only []
  rw [if_neg (show ¬ (1 : Int32) = 0 by decide), inB_nI (show c < 30027 by omega) (by omega), if_pos rfl, nI_cl (by omega), h20, hasT h hN hb, Option.bind_some]
  simp only []
  rw [if_neg (show ¬ (1 : Int32) = 0 by decide), inB_nI (show b < 30027 by omega) (by omega), if_pos rfl]
theorem boundT0 {n : Nat} {s : StT} {N c : Nat} {v : Int32} (h : s.1 16 = nI N) (hN : N ≤ 30027) (hc : c < N) (h20 : s.2.1 20 c = -1) : f_X7_numberBound_T1 n s (nI c) v = some s := by
  unfold f_X7_numberBound_T1 f_X7_numberBound_T1_18
  rw [hasT h hN hc, Option.bind_some]
  simp only []
  rw [if_neg (show ¬ (1 : Int32) = 0 by decide), inB_nI (show c < 30027 by omega) (by omega), if_pos rfl, nI_cl (by omega), h20, hasT_m1, Option.bind_some]
  simp only []
  rw [if_pos trivial]
def bndN (k i : Nat) : Bool := decide (k = 76 ∨ (k = 67 ∧ 1 ≤ i))
def prtN (k : Nat) : Nat := if k = 65 then 2 else if k = 67 then 3 else if k = 70 then 1 else if k = 73 then 1 else if k = 74 then 1 else if k = 76 then 1 else if k = 80 then 2 else if k = 83 then 1 else if k = 88 then 1 else 0
def KDS : List Nat := [65, 67, 70, 73, 74, 76, 80, 83, 88, 84, 104]
theorem bndE {n : Nat} {s : StT} {k i : Nat} (hk : k ∈ KDS) (hi : i < 4) : f_X7_binds n s (nI k) (nI i) = some (mI (bndN k i), s) := by
  unfold f_X7_binds
  have h1 : ∀ k, k ∈ KDS → ∀ i, i < 4 → (if nI k = (76 : Int32) then (1 : Int32) else if nI k = (67 : Int32) then (if nI i ≤ 0 then 0 else 1) else 0) = mI (bndN k i) := by decide
  have := h1 k hk i hi
  rw [← this]
  split
  · rfl
  · split
    · split <;> rfl
    · rfl
theorem prtE {n : Nat} {s : StT} {k : Nat} (hk : k ∈ KDS) : f_X7_partsOf n s (nI k) = some (nI (prtN k), s) := by
  unfold KDS at hk
  simp only [List.mem_cons, List.not_mem_nil, or_false] at hk
  rcases hk with e | e | e | e | e | e | e | e | e | e | e <;> (subst e; rfl)
theorem begin22 {n : Nat} {s : StT} {top c : Nat} (ht : top < 4008) (hc : c < 100000) : f_X10_begin_22 n s (nI top) (nI c) = some (nI top, uA s 15 (nI top) (nI (4 * c))) := by
  unfold f_X10_begin_22
  rw [if_neg (nI_nneg (by omega)), if_neg (show ¬ (4008 : Int32) ≤ nI top from fun e => absurd ((nI_leI (a := 4008) (by omega) (by omega)).mp e) (by omega)), inB_nI ht (by omega), if_pos rfl, pth_shl hc]
theorem pt_stop {n fu : Nat} {s : StT} {x2 x3 : Int32} (h14 : s.1 14 = nI 8001) : f_X10_putTerm_24_13 n (fu + 1) s x2 x3 = some s := by
  have ho : f_X10_overflows n s = some (1, s) := by unfold f_X10_overflows; rw [h14, if_neg (by decide)]
  rw [f_X10_putTerm_24_13]
  by_cases c1 : (16000 : Int32) ≤ x3
  · rw [if_pos c1]
  · rw [if_neg c1]
    by_cases c2 : x2 < 0
    · rw [if_pos c2]
    · rw [if_neg c2]
      by_cases c3 : (4008 : Int32) ≤ x2
      · rw [if_pos c3]
      · rw [if_neg c3, ho, Option.bind_some]
        simp only []
        rw [if_neg (show ¬ (1 : Int32) = 0 by decide)]
/-- one turn, up to what the term is -/
theorem pt_un {n fu N : Nat} {s : StT} {c b top turn k : Nat} {D : List Nat} (h16 : s.1 16 = nI N) (hN : N ≤ 30027) (hc : c < N) (hP : PgC s D) (hD : D.length ≤ 8000) (ht : top < 4008) (htu : turn < 16000) (hpt : s.2.1 15 top = nI (4 * c + b)) (hb : b < 4) (hk : k ∈ KDS) (hkk : s.2.1 16 c = nI k) (dec : Bool) (hdec : dec = (decide (0 < b) && bndN k (b - 1))) : ∃ s1, f_X10_putTerm_24_13 n (fu + 1) s (nI top) (nI turn) = f_X10_putTerm_24_104 n (f_X10_putTerm_24_13 n fu) s1 (nI top) (nI turn) (nI c) (nI b) (nI k) ∧ AgTC s s1 ∧ PgX s1 D ∧ s1.2.1 17 = s.2.1 17 ∧ s1.1 15 = (if dec = true then s.1 15 - 1 else s.1 15) ∧ s1.2.1 15 top = nI (4 * c + (b + 1)) ∧ ∀ i, i ≠ top → s1.2.1 15 i = s.2.1 15 i := by
  generalize hs0 : uA s 15 (nI top) (nI (4 * c + (b + 1))) = s0
  have A0 : AgTC s s0 := by rw [← hs0]; exact AgTC.path _ _ _
  have P0 : PgX s0 D := by rw [← hs0]; exact (PgX.of hP).ag rfl rfl
  have r15 : ∀ i, s0.2.1 15 i = if i = top then nI (4 * c + (b + 1)) else s.2.1 15 i := fun i => by
    rw [← hs0]; simp only [uA_21, if_true, upd_j, nI_cl (show top < 2 ^ 31 by omega)]
  have r17 : s0.2.1 17 = s.2.1 17 := by rw [← hs0]; rfl
  have f15 : s0.1 15 = s.1 15 := by rw [← hs0]; rfl
  have e0 : f_X10_putTerm_24_13 n (fu + 1) s (nI top) (nI turn) = (if nI b ≤ 0 then (f_X10_putTerm_24_104 n (f_X10_putTerm_24_13 n fu) s0 (nI top) (nI turn) (nI c) (nI b) (nI k)) else ((f_X7_binds n s0 (nI k) (nI b - 1)).bind fun q88 => (if q88.1 = 0 then (f_X10_putTerm_24_104 n (f_X10_putTerm_24_13 n fu) q88.2 (nI top) (nI turn) (nI c) (nI b) (nI k)) else (f_X10_putTerm_24_104 n (f_X10_putTerm_24_13 n fu) (uF q88.2 15 ((q88.2.1 15) - 1)) (nI top) (nI turn) (nI c) (nI b) (nI k))))) := by
    rw [f_X10_putTerm_24_13, if_neg (show ¬ (16000 : Int32) ≤ nI turn from fun e => absurd ((nI_leI (a := 16000) (by omega) (by omega)).mp e) (by omega)), if_neg (nI_nneg (by omega)), if_neg (show ¬ (4008 : Int32) ≤ nI top from fun e => absurd ((nI_leI (a := 4008) (by omega) (by omega)).mp e) (by omega)), overC hP, if_pos hD, Option.bind_some]
    simp only []
    rw [if_pos trivial, inB_nI ht (by omega), if_pos rfl, if_pos rfl, nI_cl (show top < 2 ^ 31 by omega), hpt, pth_shr (by omega) hb, pth_and hb, kindT h16 hN hc, Option.bind_some]
    simp only []
    rw [if_pos trivial, if_pos trivial, hpt, hkk, nI_1, show 4 * c + b + 1 = 4 * c + (b + 1) by omega, hs0]
  rw [e0]
  by_cases b0 : b = 0
  · subst b0
    rw [if_pos (by decide)]
    refine ⟨s0, rfl, A0, P0, r17, ?_, by rw [r15, if_pos rfl], fun i hi => by rw [r15, if_neg hi]⟩
    rw [hdec]; exact f15
  · rw [if_neg (nI_nle (by omega) (by omega)), show nI b - 1 = nI (b - 1) by obtain ⟨z, rfl⟩ := Nat.exists_eq_succ_of_ne_zero b0; exact nI_m1, bndE hk (by omega), Option.bind_some]
    simp only []
    have hd2 : dec = bndN k (b - 1) := by rw [hdec, decide_eq_true (show 0 < b by omega)]; rfl
    cases hx : bndN k (b - 1) with
    | false =>
      rw [if_pos (show mI false = 0 by decide)]
      refine ⟨s0, rfl, A0, P0, r17, ?_, by rw [r15, if_pos rfl], fun i hi => by rw [r15, if_neg hi]⟩
      rw [hd2, hx]; exact f15
    | true =>
      rw [if_neg (show ¬ mI true = 0 by decide)]
      refine ⟨uF s0 15 (s0.1 15 - 1), rfl, A0.tr (AgTC.around _ _), P0.ag rfl rfl, r17, ?_, by show s0.2.1 15 top = _; rw [r15, if_pos rfl], fun i hi => by show s0.2.1 15 i = _; rw [r15, if_neg hi]⟩
      rw [hd2, hx, if_pos rfl, ← f15]; rfl
/-- how a term's writing goes on -/
def GoesT (n : Nat) (sC s : StT) (r : Option StT) (D' : List Nat) (top dp : Nat) (X : Nat → Prop) : Prop :=
  (D'.length ≤ 8000 ∧ ∃ (s' : StT) (fu' turn' : Nat), r = f_X10_putTerm_24_13 n fu' s' (nI top - 1) (nI turn') ∧ PgC s' D' ∧ turn' ≤ D'.length ∧ 16010 ≤ fu' + turn' ∧ AgTC sC s' ∧ s'.1 15 = nI dp ∧ (∀ i, i < top → s'.2.1 15 i = s.2.1 15 i) ∧ ∀ x, x < 40000 → X x → s'.2.1 17 x = s.2.1 17 x)
  ∨ (8000 < D'.length ∧ ∃ s', r = some s' ∧ s'.1 14 = nI 8001 ∧ AgTC sC s' ∧ ∀ x, x < 40000 → X x → s'.2.1 17 x = s.2.1 17 x)
/-- the same, while the term at top is under way: b parts are begun -/
def RunT (n : Nat) (sC s : StT) (r : Option StT) (D' : List Nat) (top c b dp : Nat) (X : Nat → Prop) : Prop :=
  (D'.length ≤ 8000 ∧ ∃ (s' : StT) (fu' turn' : Nat), r = f_X10_putTerm_24_13 n fu' s' (nI top) (nI turn') ∧ PgC s' D' ∧ turn' ≤ D'.length ∧ 16010 ≤ fu' + turn' ∧ AgTC sC s' ∧ s'.1 15 = nI dp ∧ s'.2.1 15 top = nI (4 * c + b) ∧ (∀ i, i < top → s'.2.1 15 i = s.2.1 15 i) ∧ ∀ x, x < 40000 → X x → s'.2.1 17 x = s.2.1 17 x)
  ∨ (8000 < D'.length ∧ ∃ s', r = some s' ∧ s'.1 14 = nI 8001 ∧ AgTC sC s' ∧ ∀ x, x < 40000 → X x → s'.2.1 17 x = s.2.1 17 x)
def XX (sC : StT) (c n0 : Nat) (S : Nat → Nat) (x : Nat) : Prop := (∃ k, k < n0 ∧ x = S k) ∨ NBx sC c x
/-- the class writes E for its node c -/
def CCt (n : Nat) (sC : StT) (c n0 : Nat) (S NU : Nat → Nat) (dp : Nat) (E : List Nat) : Prop := ∀ (top turn fu : Nat) (s : StT) (D : List Nat), AgTC sC s → PgC s D → D.length ≤ 8000 → turn ≤ D.length → 16010 ≤ fu + turn → 2 * top ≤ D.length → s.2.1 15 top = nI (4 * c) → s.1 15 = nI dp → (∀ k, k < n0 → S k < 40000 → s.2.1 17 (S k) = nI (NU k)) → dp ≤ 20 + D.length → (∀ k, k < n0 → NU k ≤ dp) → GoesT n sC s (f_X10_putTerm_24_13 n fu s (nI top) (nI turn)) (D ++ E) top dp (XX sC c n0 S)
/-- the term is closed -/
theorem RunT.fin {n N : Nat} {sC s : StT} {r : Option StT} {D : List Nat} {top c k dp dp' : Nat} {X : Nat → Prop} (h16 : sC.1 16 = nI N) (hN : N ≤ 30027) (hc : c < N) (hk : k ∈ KDS) (hkk : sC.2.1 16 c = nI k) (hb : 0 < prtN k) (ht : 2 * top ≤ D.length) (hdp : dp' = dp + if bndN k (prtN k - 1) = true then 1 else 0) (g : RunT n sC s r D top c (prtN k) dp' X) : GoesT n sC s r (D ++ [41]) top dp X := by
  rcases g with ⟨g1, s1, fu, turn, g2, g3, g4, g5, g6, g7, g8, g9, g10⟩ | ⟨g1, s1, g2, g3, g4, g5⟩
  · obtain ⟨fu, rfl⟩ := Nat.exists_eq_succ_of_ne_zero (show fu ≠ 0 by omega)
    have hb4 : prtN k < 4 := (show ∀ k, k ∈ KDS → prtN k < 4 by decide) k hk
    obtain ⟨s2, a1, a2, a3, a4, a5, a6, a7⟩ := pt_un (n := n) (fu := fu) (turn := turn) (by rw [g6.1 16 (by decide) (by decide)]; exact h16) hN hc g3 g1 (by omega) (by omega) g8 hb4 hk (by rw [g6.a (by decide)]; exact hkk) _ rfl
    obtain ⟨s3, b1, b2, b3⟩ := putX (n := n) (b := 41) a3 (by omega)
    have eR : r = f_X10_putTerm_24_13 n fu s3 (nI top - 1) (nI (turn + 1)) := by
      rw [g2, a1]
      unfold f_X10_putTerm_24_104
      rw [prtE hk, Option.bind_some]
      simp only []
      rw [if_neg (nI_ne0 hb (by omega)), prtE hk, Option.bind_some]
      simp only []
      rw [if_pos trivial, show (41 : Int32) = nI 41 from rfl, b1, Option.bind_some, nI_1, Int32.sub_eq_add_neg]
    have A3 := (g6.tr a2).tr b3.toT
    have x17 : ∀ x, x < 40000 → X x → s3.2.1 17 x = s.2.1 17 x := fun x h1 h2 => by rw [b3.2.1 17 (by decide), a4]; exact g10 x h1 h2
    rcases b2 with ⟨c1, c2⟩ | ⟨c1, c2⟩
    · refine Or.inl ⟨c1, s3, fu, turn + 1, eR, c2, by rw [len_app]; simp; omega, by omega, A3, ?_, fun i hi => ?_, x17⟩
      · rw [b3.1 15 (by decide), a5, g7, hdp, decide_eq_true hb, Bool.true_and]
        cases bndN k (prtN k - 1) with
        | false => rw [if_neg (by decide), if_neg (by decide)]; rfl
        | true => rw [if_pos rfl, if_pos rfl]; exact nI_m1
      · rw [b3.2.1 15 (by decide), a7 i (by omega)]; exact g9 i hi
    · obtain ⟨fu, rfl⟩ := Nat.exists_eq_succ_of_ne_zero (show fu ≠ 0 by omega)
      exact Or.inr ⟨c1, s3, by rw [eR, pt_stop c2], c2, A3, x17⟩
  · exact Or.inr ⟨by rw [len_app]; omega, s1, g2, g3, g4, g5⟩
