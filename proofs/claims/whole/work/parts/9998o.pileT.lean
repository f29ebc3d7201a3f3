/-! ===== proof: the reference's chains, and its pile of terms ===== -/
def AgTM (s s' : StT) : Prop := (∀ j, j ≠ 15 → j ≠ 31 → j ≠ 32 → s'.1 j = s.1 j) ∧ (∀ j, j ≠ 8 → (j < 33 ∨ 39 < j) → s'.2.1 j = s.2.1 j) ∧ s'.2.2 = s.2.2
theorem AgTM.rf (s : StT) : AgTM s s := ⟨fun _ _ _ _ => rfl, fun _ _ _ => rfl, rfl⟩
theorem AgTM.tr {a b c : StT} (h : AgTM a b) (g : AgTM b c) : AgTM a c := ⟨fun j x y z => (g.1 j x y z).trans (h.1 j x y z), fun j x y => (g.2.1 j x y).trans (h.2.1 j x y), g.2.2.trans h.2.2⟩
theorem AgW.toT {a b : StT} (h : AgW a b) : AgTM a b := ⟨fun j x y _ => h.1 j x y, fun j x y => h.2.1 j x (by omega) (by omega) (by omega) (by omega), h.2.2⟩
theorem MF.agT {s s' : StT} {t : FT} (a : AgTM s s') (h : MF s t) : MF s' t := MF.ag (a.1 0 (by decide) (by decide) (by decide)) (a.2.1 0 (by decide) (by decide)) (a.2.1 1 (by decide) (by decide)) (a.2.1 2 (by decide) (by decide)) h
theorem NmM.agT {s s' : StT} {vn : Nat} {nm : Nat → List Nat} (a : AgTM s s') (h : NmM s vn nm) : NmM s' vn nm := fun v hv => by
  rw [a.2.1 4 (by decide) (by decide), a.2.1 3 (by decide) (by decide)]; exact h v hv
/-- a chain of n0 hypotheses with their numbers -/
def CHn (s : StT) (cn : Nat) (NU : Nat → Nat) : Nat → Int32 → Prop
  | 0, x => x = -1
  | n + 1, x => ∃ c, c < cn ∧ x = nI c ∧ s.2.1 39 c = nI (n + 1) ∧ s.2.1 38 c = nI (NU n) ∧ CHn s cn NU n (s.2.1 37 c)
theorem CHn.mv {s s' : StT} {cn cn' : Nat} {NU NU' : Nat → Nat} (h1 : cn ≤ cn') (h2 : ∀ j c, 36 < j → j < 40 → c < cn → s'.2.1 j c = s.2.1 j c) : ∀ {n : Nat} {x : Int32}, CHn s cn NU n x → (∀ k, k < n → NU' k = NU k) → CHn s' cn' NU' n x := by
  intro n
  induction n with
  | zero => intro x a _; exact a
  | succ n ih =>
    intro x a hN
    obtain ⟨c, b1, b2, b3, b4, b5⟩ := a
    refine ⟨c, by omega, b2, by rw [h2 39 c (by decide) (by decide) b1]; exact b3, by rw [h2 38 c (by decide) (by decide) b1, hN n (by omega)]; exact b4, ?_⟩
    rw [h2 37 c (by decide) (by decide) b1]
    exact ih b5 (fun k hk => hN k (by omega))
theorem CHn.cut {n : Nat} {s : StT} {cn m : Nat} {NU : Nat → Nat} (hcn : cn ≤ 60000) : ∀ (n0 : Nat) (x : Int32) (fu : Nat), CHn s cn NU n0 x → m ≤ n0 → n0 < 2000 → n0 < fu → ∃ x', f_X12_cutChain_2 n fu s (nI m) x = some (x', s) ∧ CHn s cn NU m x' := by
  intro n0
  induction n0 with
  | zero =>
    intro x fu a hm _ hfu
    obtain ⟨fu, rfl⟩ := Nat.exists_eq_succ_of_ne_zero (show fu ≠ 0 by omega)
    have : m = 0 := by omega
    subst this
    refine ⟨x, ?_, a⟩
    have a : x = -1 := a
    rw [f_X12_cutChain_2, a, if_pos (by decide)]
  | succ n0 ih =>
    intro x fu a hm h2 hfu
    obtain ⟨fu, rfl⟩ := Nat.exists_eq_succ_of_ne_zero (show fu ≠ 0 by omega)
    have a0 := a
    obtain ⟨c, b1, b2, b3, b4, b5⟩ := a
    rw [f_X12_cutChain_2, b2, if_neg (nI_nneg (by omega)), inB_nI (show c < 60000 by omega) (by omega), if_pos rfl, nI_cl (by omega), b3]
    by_cases e : m = n0 + 1
    · rw [if_pos (by rw [e]; exact Int32.le_refl _)]
      exact ⟨nI c, rfl, by rw [e, ← b2]; exact a0⟩
    · rw [if_neg (nI_ge (by omega) (by omega)), if_pos rfl]
      exact ih _ fu b5 (by omega) (by omega) (by omega)
theorem CHn.count {s : StT} {cn n0 : Nat} {NU : Nat → Nat} {x : Int32} (a : CHn s cn NU n0 x) (hcn : cn ≤ 60000) : (n0 = 0 ∧ x = -1) ∨ ∃ c, c < 60000 ∧ x = nI c ∧ s.2.1 39 c = nI n0 := by
  cases n0 with
  | zero => exact Or.inl ⟨rfl, a⟩
  | succ n0 => obtain ⟨c, b1, b2, b3, _, _⟩ := a; exact Or.inr ⟨c, by omega, b2, b3⟩
def chS (s : StT) (cn : Nat) (x y z : Int32) : StT := uF (uA (uA (uA s 37 (nI cn) x) 38 (nI cn) y) 39 (nI cn) z) 32 (nI (cn + 1))
theorem chainM {n : Nat} {s : StT} {cn : Nat} {x y z : Int32} (h : s.1 32 = nI cn) (hc : cn < 60000) : f_X12_chain n s x y z = some (nI cn, chS s cn x y z) := by
  unfold f_X12_chain chS
  simp only [uA_1, h, inB_nI hc (show 60000 < 2 ^ 31 by omega), if_true, uF_1, nI_1, nI_m1]
theorem chS_ag (s : StT) (cn : Nat) (x y z : Int32) : AgTM s (chS s cn x y z) := ⟨fun j _ _ h => by unfold chS; simp only [uF_1, uA_1, h, if_false], fun j _ h => by
  unfold chS; simp only [uF_2, uA_21]; rw [if_neg (by omega), if_neg (by omega), if_neg (by omega)], rfl⟩
theorem chS_row {s : StT} {cn : Nat} {x y z : Int32} (hc : cn < 60000) : (chS s cn x y z).2.1 37 cn = x ∧ (chS s cn x y z).2.1 38 cn = y ∧ (chS s cn x y z).2.1 39 cn = z := by
  unfold chS
  simp only [uF_2, uA_21, if_true, if_neg (show ¬ (37 : Nat) = 38 by decide), if_neg (show ¬ (37 : Nat) = 39 by decide), if_neg (show ¬ (38 : Nat) = 39 by decide), upd_j, nI_cl (show cn < 2 ^ 31 by omega)]
  exact ⟨trivial, trivial, trivial⟩
theorem chS_low {s : StT} {cn : Nat} {x y z : Int32} (hc : cn < 60000) : ∀ j c, 36 < j → j < 40 → c < cn → (chS s cn x y z).2.1 j c = s.2.1 j c := fun j c h1 h2 h3 => by
  unfold chS
  simp only [uF_2, uA_21]
  have e : ∀ (g : Nat → Int32) (v : Int32), upd g (nI cn).toNatClampNeg v c = g c := fun g v => by rw [upd_j, nI_cl (by omega), if_neg (by omega)]
  repeat' split
  all_goals simp only [e]
theorem chS_ent {s : StT} {cn : Nat} {x y z : Int32} (i : Nat) : ent (chS s cn x y z) i = ent s i := by
  unfold ent chS
  simp only [uF_2, uA_21, if_neg (show ¬ (33 : Nat) = 37 by decide), if_neg (show ¬ (33 : Nat) = 38 by decide), if_neg (show ¬ (33 : Nat) = 39 by decide), if_neg (show ¬ (34 : Nat) = 37 by decide), if_neg (show ¬ (34 : Nat) = 38 by decide), if_neg (show ¬ (34 : Nat) = 39 by decide), if_neg (show ¬ (35 : Nat) = 37 by decide), if_neg (show ¬ (35 : Nat) = 38 by decide), if_neg (show ¬ (35 : Nat) = 39 by decide), if_neg (show ¬ (36 : Nat) = 37 by decide), if_neg (show ¬ (36 : Nat) = 38 by decide), if_neg (show ¬ (36 : Nat) = 39 by decide)]
theorem chS_CH {s : StT} {cn n0 dp : Nat} {NU : Nat → Nat} {x : Int32} (hc : cn < 60000) (a : CHn s cn NU n0 x) : CHn (chS s cn x (nI dp) (nI (n0 + 1))) (cn + 1) (updN NU n0 dp) (n0 + 1) (nI cn) := by
  have r := chS_row (s := s) (x := x) (y := nI dp) (z := nI (n0 + 1)) hc
  refine ⟨cn, Nat.lt_succ_self _, rfl, r.2.2, ?_, ?_⟩
  · rw [r.2.1]; unfold updN; rw [if_pos rfl]
  · rw [r.1]; exact a.mv (Nat.le_succ _) (chS_low hc) (fun k hk => by unfold updN; rw [if_neg (by omega)])
/-- fuel: a turn that writes nothing goes down to a term made earlier -/
def KT : Nat := 486608110
def GoesR (n : Nat) (sM s : StT) (r : Option StT) (D' : List Nat) (h cn : Nat) : Prop :=
  (D'.length ≤ 8000 ∧ ∃ (s' : StT) (fu' cn' : Nat), r = f_X12_writeAll_0 n fu' s' ∧ PgM s' D' ∧ s'.1 31 = nI h ∧ KT ≤ fu' + 60001 * D'.length ∧ AgTM sM s' ∧ (∀ i, i < h → ent s' i = ent s i) ∧ s'.1 32 = nI cn' ∧ cn ≤ cn' ∧ cn' ≤ 20 + D'.length ∧ ∀ j c, 36 < j → j < 40 → c < cn → s'.2.1 j c = s.2.1 j c)
  ∨ (8000 < D'.length ∧ ∃ s' m, r = some s' ∧ s'.1 15 = nI m ∧ 8000 < m ∧ m ≤ 8100 ∧ AgTM sM s')
theorem GoesR.seq {n : Nat} {sM s : StT} {r : Option StT} {D E : List Nat} {h h2 cn : Nat} (g : GoesR n sM s r D h cn) (k : ∀ (s' : StT) (fu' cn' : Nat), PgM s' D → D.length ≤ 8000 → s'.1 31 = nI h → KT ≤ fu' + 60001 * D.length → AgTM sM s' → (∀ i, i < h → ent s' i = ent s i) → s'.1 32 = nI cn' → cn ≤ cn' → cn' ≤ 20 + D.length → (∀ j c, 36 < j → j < 40 → c < cn → s'.2.1 j c = s.2.1 j c) → GoesR n sM s (f_X12_writeAll_0 n fu' s') (D ++ E) h2 cn) : GoesR n sM s r (D ++ E) h2 cn := by
  rcases g with ⟨g1, s', fu', cn', g2, g3, g4, g5, g6, g7, g8, g9, g10, g11⟩ | ⟨g1, s', m, g2, g3, g4, g5, g6⟩
  · rw [g2]; exact k s' fu' cn' g3 g1 g4 g5 g6 g7 g8 g9 g10 g11
  · exact Or.inr ⟨by rw [len_app]; omega, s', m, g2, g3, g4, g5, g6⟩
theorem GoesR.base {n : Nat} {sM s s' : StT} {r : Option StT} {D : List Nat} {h cn cn' : Nat} (g : GoesR n sM s' r D h cn') (h1 : ∀ i, i < h → ent s' i = ent s i) (h2 : cn ≤ cn') (h3 : ∀ j c, 36 < j → j < 40 → c < cn → s'.2.1 j c = s.2.1 j c) : GoesR n sM s r D h cn := by
  rcases g with ⟨g1, z, fu', cz, g2, g3, g4, g5, g6, g7, g8, g9, g10, g11⟩ | g
  · exact Or.inl ⟨g1, z, fu', cz, g2, g3, g4, g5, g6, fun i hi => (g7 i hi).trans (h1 i hi), g8, by omega, g10, fun j c x y w => (g11 j c x y (by omega)).trans (h3 j c x y w)⟩
  · exact Or.inr g
theorem GoesR.mk {n : Nat} {sM s s' : StT} {D : List Nat} {h fu cn cn' : Nat} (hP : PgM s' D) (hh : s'.1 31 = nI h) (hfu : KT ≤ fu + 60001 * D.length) (h1 : 1 ≤ fu) (hA : AgTM sM s') (he : ∀ i, i < h → ent s' i = ent s i) (h32 : s'.1 32 = nI cn') (hc : cn ≤ cn') (hc2 : cn' ≤ 20 + D.length) (hl : ∀ j c, 36 < j → j < 40 → c < cn → s'.2.1 j c = s.2.1 j c) : GoesR n sM s (f_X12_writeAll_0 n fu s') D h cn := by
  by_cases c : D.length ≤ 8000
  · exact Or.inl ⟨c, s', fu, cn', rfl, hP, hh, hfu, hA, he, h32, hc, hc2, hl⟩
  · obtain ⟨fu, rfl⟩ : ∃ q, fu = q + 1 := ⟨fu - 1, by omega⟩
    refine Or.inr ⟨by omega, s', min D.length 8100, ?_, hP.1, by omega, by omega, hA⟩
    rw [f_X12_writeAll_0, hP.1, if_pos (show (8000 : Int32) < nI (min D.length 8100) from (nI_ltI (a := 8000) (by omega) (by omega)).mpr (by omega)), if_t_t]
theorem GoesK.toR {n fu : Nat} {sM s : StT} {r : Option StT} {D E : List Nat} {h cn : Nat} (hA : AgTM sM s) (hfu : KT ≤ fu + 60001 * D.length) (h32 : s.1 32 = nI cn) (hcn : cn ≤ 20 + D.length) (g : GoesK (fu + D.length) n s r (D ++ E) h (ent s)) : GoesR n sM s r (D ++ E) h cn := by
  rcases g with ⟨g1, s', fu', g2, g3, g4, g5, g6, g7⟩ | ⟨g1, s', m, g2, g3, g4, g5, g6⟩
  · refine Or.inl ⟨g1, s', fu', cn, g2, g3, g4, ?_, hA.tr g6.toT, g7, by rw [g6.1 32 (by decide) (by decide)]; exact h32, Nat.le_refl _, by rw [len_app]; omega, fun j c x y _ => by rw [g6.2.1 j (by omega) (by omega) (by omega) (by omega) (by omega)]⟩
    rw [len_app] at g5 ⊢
    omega
  · exact Or.inr ⟨g1, s', m, g2, g3, g4, g5, hA.tr g6.toT⟩
theorem byteR {n : Nat} {sM s : StT} {D : List Nat} {h fu cn b : Nat} (hA : AgTM sM s) (hP : PgM s D) (hD : D.length ≤ 8000) (hh : s.1 31 = nI (h + 1)) (hb : h < 30000) (hfu : KT ≤ fu + 60001 * D.length) (h32 : s.1 32 = nI cn) (hcn : cn ≤ 20 + D.length) (he : ∃ y z, ent s h = (0, nI b, y, z)) (hbb : b < 128) : GoesR n sM s (f_X12_writeAll_0 n fu s) (D ++ [b]) h cn := by
  have hKT : KT = 486608110 := rfl
  exact GoesK.toR hA hfu h32 hcn (byteKM (by omega) hP hD hh hb (Nat.le_refl _) (AgW.rf _) he hbb)
theorem formR {n : Nat} (hn : 100000 ≤ n) {D0 : HD} {sM s : StT} {D : List Nat} {h fu cn f : Nat} (hM : MF sM D0.1) (hw : WFt D0.1 D0.2.1) (hNm : NmM sM D0.2.1 D0.2.2.2) (hNW : NmW D0.2.1 D0.2.2.2) (hf : f < D0.1.1) (hA : AgTM sM s) (hP : PgM s D) (hD : D.length ≤ 8000) (hh : s.1 31 = nI (h + 1)) (hb : h < 21000) (hfu : KT ≤ fu + 60001 * D.length) (h32 : s.1 32 = nI cn) (hcn : cn ≤ 20 + D.length) (he : ∃ y z, ent s h = (1, nI f, y, z)) : GoesR n sM s (f_X12_writeAll_0 n fu s) (D ++ fb D0.1 D0.2.2.2 f) h cn := by
  have hKT : KT = 486608110 := rfl
  have := hw.2.1
  exact GoesK.toR hA hfu h32 hcn (wfK (by omega) hn (hM.agT hA) hw (hNm.agT hA) hNW f hf h fu s D (by omega) hP hD hh (Nat.le_refl _) (AgW.rf _) he)
theorem popT {n : Nat} {s : StT} {D : List Nat} {h fu : Nat} {a x y : Int32} (hP : PgM s D) (hD : D.length ≤ 8000) (hh : s.1 31 = nI (h + 1)) (hb : h < 30000) (he : ent s h = (2, a, x, y)) : f_X12_writeAll_0 n (fu + 1) s = (f_X12_putTerm n (uF s 31 (nI h)) a x y).bind fun q => f_X12_writeAll_0 n fu q := by
  have e33 : s.2.1 33 h = 2 := congrArg (·.1) he
  have e34 : s.2.1 34 h = a := congrArg (·.2.1) he
  have e35 : s.2.1 35 h = x := congrArg (·.2.2.1) he
  have e36 : s.2.1 36 h = y := congrArg (·.2.2.2) he
  rw [f_X12_writeAll_0, hh, if_neg (show ¬ nI (h + 1) ≤ 0 from nI_nle (by omega) (by omega)), hP.1, if_neg (show ¬ (8000 : Int32) < nI (min D.length 8100) from fun e => absurd ((nI_ltI (a := 8000) (by omega) (by omega)).mp e) (by omega)), nI_m1]
  simp only [uF_1, if_true, uF_2, inB_nI hb (show 30000 < 2 ^ 31 by omega), nI_cl (show h < 2 ^ 31 by omega), e33, e34, e35, e36, if_neg (show ¬ (2 : Int32) = 0 by decide), if_neg (show ¬ (2 : Int32) = 1 by decide)]
/-- the reference writes E for its node r -/
def MMt (n : Nat) (sM : StT) (r n0 : Nat) (NU : Nat → Nat) (dp : Nat) (E : List Nat) : Prop := ∀ (h fu cn : Nat) (s : StT) (D : List Nat) (x : Int32), AgTM sM s → PgM s D → D.length ≤ 8000 → 2 * h ≤ 5 * D.length → s.1 31 = nI (h + 1) → KT ≤ fu + 60001 * D.length + (60000 - r) → ent s h = (2, nI r, x, nI dp) → s.1 32 = nI cn → cn ≤ 20 + D.length → CHn s cn NU n0 x → dp ≤ 20 + D.length → (∀ k, k < n0 → NU k ≤ dp) → GoesR n sM s (f_X12_writeAll_0 n fu s) (D ++ E) h cn
