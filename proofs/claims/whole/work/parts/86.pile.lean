/-! ===== the reference's pile ===== -/
def ent (s : StT) (i : Nat) : Int32 × Int32 × Int32 × Int32 := (s.2.1 33 i, s.2.1 34 i, s.2.1 35 i, s.2.1 36 i)
def AgW (s s' : StT) : Prop := (∀ j, j ≠ 15 → j ≠ 31 → s'.1 j = s.1 j) ∧ (∀ j, j ≠ 8 → j ≠ 33 → j ≠ 34 → j ≠ 35 → j ≠ 36 → s'.2.1 j = s.2.1 j) ∧ s'.2.2 = s.2.2
theorem AgW.rf (s : StT) : AgW s s := ⟨fun _ _ _ => rfl, fun _ _ _ _ _ _ => rfl, rfl⟩
theorem AgW.tr {a b c : StT} (h : AgW a b) (g : AgW b c) : AgW a c := ⟨fun j h1 h2 => (g.1 j h1 h2).trans (h.1 j h1 h2), fun j h1 h2 h3 h4 h5 => (g.2.1 j h1 h2 h3 h4 h5).trans (h.2.1 j h1 h2 h3 h4 h5), g.2.2.trans h.2.2⟩
theorem AgQ.toW {a b : StT} (h : AgQ a b) : AgW a b := ⟨fun j h1 _ => h.1 j h1, fun j h1 _ _ _ _ => h.2.1 j h1, h.2.2⟩
theorem AgQ.entq {a b : StT} (h : AgQ a b) (i : Nat) : ent b i = ent a i := by
  unfold ent
  rw [h.2.1 33 (by decide), h.2.1 34 (by decide), h.2.1 35 (by decide), h.2.1 36 (by decide)]
theorem AgW.pop (s : StT) (v : Int32) : AgW s (uF s 31 v) := ⟨fun j _ h2 => by simp only [uF_1, h2, if_false], fun _ _ _ _ _ _ => rfl, rfl⟩
theorem PgM.pop {s : StT} {D : List Nat} (h : PgM s D) (v : Int32) : PgM (uF s 31 v) D := h
theorem MF.agW {s s' : StT} {t : FT} (a : AgW s s') (h : MF s t) : MF s' t := MF.ag (a.1 0 (by decide) (by decide)) (a.2.1 0 (by decide) (by decide) (by decide) (by decide) (by decide)) (a.2.1 1 (by decide) (by decide) (by decide) (by decide) (by decide)) (a.2.1 2 (by decide) (by decide) (by decide) (by decide) (by decide)) h
theorem NmM.agW {s s' : StT} {vn : Nat} {nm : Nat → List Nat} (a : AgW s s') (h : NmM s vn nm) : NmM s' vn nm := fun v hv => by
  rw [a.2.1 4 (by decide) (by decide) (by decide) (by decide) (by decide), a.2.1 3 (by decide) (by decide) (by decide) (by decide) (by decide)]; exact h v hv
def psh (s : StT) (h : Nat) (x1 x2 x3 x4 : Int32) : StT := uF (uA (uA (uA (uA s 33 (nI h) x1) 34 (nI h) x2) 35 (nI h) x3) 36 (nI h) x4) 31 (nI (h + 1))
theorem pushM {n : Nat} {s : StT} {h : Nat} {x1 x2 x3 x4 : Int32} (hh : s.1 31 = nI h) (hb : h < 30000) : f_X12_push n s x1 x2 x3 x4 = some (psh s h x1 x2 x3 x4) := by
  unfold f_X12_push psh
  simp only [uA_1, hh, inB_nI hb (show 30000 < 2 ^ 31 by omega), if_true, nI_1]
theorem psh_ent {s : StT} {h : Nat} {x1 x2 x3 x4 : Int32} (hb : h < 30000) (i : Nat) : ent (psh s h x1 x2 x3 x4) i = if i = h then (x1, x2, x3, x4) else ent s i := by
  unfold ent psh
  by_cases e : i = h
  · simp [uF_2, uA_21, upd_j, nI_cl (show h < 2 ^ 31 by omega), e]
  · simp [uF_2, uA_21, upd_j, nI_cl (show h < 2 ^ 31 by omega), e]
theorem psh_31 {s : StT} {h : Nat} {x1 x2 x3 x4 : Int32} : (psh s h x1 x2 x3 x4).1 31 = nI (h + 1) := rfl
theorem psh_ag (s : StT) (h : Nat) (x1 x2 x3 x4 : Int32) : AgW s (psh s h x1 x2 x3 x4) := ⟨fun j _ h2 => by unfold psh; simp only [uF_1, h2, if_false, uA_1], fun j h1 h2 h3 h4 h5 => by unfold psh; simp only [uF_2, uA_21, h2, h3, h4, h5, if_false], rfl⟩
theorem psh_pg {s : StT} {D : List Nat} (h : PgM s D) (k : Nat) (x1 x2 x3 x4 : Int32) : PgM (psh s k x1 x2 x3 x4) D := ⟨h.1, fun i b hi hb => h.2 i b hi hb⟩
def GoesM (n : Nat) (s0 : StT) (r : Option StT) (D' : List Nat) (h : Nat) (pl : Nat → Int32 × Int32 × Int32 × Int32) : Prop := (D'.length ≤ 8000 ∧ ∃ (s' : StT) (fu' : Nat), r = f_X12_writeAll_0 n fu' s' ∧ PgM s' D' ∧ s'.1 31 = nI h ∧ 8110 ≤ fu' + D'.length ∧ AgW s0 s' ∧ ∀ i, i < h → ent s' i = pl i) ∨ (8000 < D'.length ∧ ∃ s' m, r = some s' ∧ s'.1 15 = nI m ∧ 8000 < m ∧ m ≤ 8100 ∧ AgW s0 s')
theorem GoesM.seq {n : Nat} {s0 : StT} {r : Option StT} {D E : List Nat} {h h2 : Nat} {pl pl2 : Nat → Int32 × Int32 × Int32 × Int32} (g : GoesM n s0 r D h pl) (k : ∀ (s' : StT) (fu' : Nat), PgM s' D → D.length ≤ 8000 → s'.1 31 = nI h → 8110 ≤ fu' + D.length → AgW s0 s' → (∀ i, i < h → ent s' i = pl i) → GoesM n s0 (f_X12_writeAll_0 n fu' s') (D ++ E) h2 pl2) : GoesM n s0 r (D ++ E) h2 pl2 := by
  rcases g with ⟨g1, s', fu', g2, g3, g4, g5, g6, g7⟩ | ⟨g1, s', m, g2, g3, g4, g5, g6⟩
  · rw [g2]; exact k s' fu' g3 g1 g4 g5 g6 g7
  · exact Or.inr ⟨by rw [len_app]; omega, s', m, g2, g3, g4, g5, g6⟩
/-- after a step: either the page is full or it goes on -/
theorem GoesM.mk {n : Nat} {s0 s' : StT} {D : List Nat} {h fu : Nat} {pl : Nat → Int32 × Int32 × Int32 × Int32} (hP : PgM s' D) (hh : s'.1 31 = nI h) (hb : h < 30000) (hfu : 8110 ≤ fu + D.length) (h1 : 1 ≤ fu) (hA : AgW s0 s') (he : ∀ i, i < h → ent s' i = pl i) : GoesM n s0 (f_X12_writeAll_0 n fu s') D h pl := by
  by_cases c : D.length ≤ 8000
  · exact Or.inl ⟨c, s', fu, rfl, hP, hh, hfu, hA, he⟩
  · obtain ⟨fu, rfl⟩ : ∃ q, fu = q + 1 := ⟨fu - 1, by omega⟩
    refine Or.inr ⟨by omega, s', min D.length 8100, ?_, hP.1, by omega, by omega, hA⟩
    rw [f_X12_writeAll_0, hP.1, if_pos (show (8000 : Int32) < nI (min D.length 8100) from (nI_ltI (a := 8000) (by omega) (by omega)).mpr (by omega)), if_t_t]
/-- a byte on the pile -/
theorem byteM {n : Nat} {s0 s : StT} {D : List Nat} {h fu b : Nat} (hP : PgM s D) (hD : D.length ≤ 8000) (hh : s.1 31 = nI (h + 1)) (hb : h < 30000) (hfu : 8110 ≤ fu + D.length) (hA : AgW s0 s) (he : ∃ y z, ent s h = (0, nI b, y, z)) (hbb : b < 128) : GoesM n s0 (f_X12_writeAll_0 n fu s) (D ++ [b]) h (ent s) := by
  obtain ⟨fu, rfl⟩ : ∃ q, fu = q + 1 := ⟨fu - 1, by omega⟩
  obtain ⟨y, z, he⟩ := he
  have e33 : s.2.1 33 h = 0 := congrArg (·.1) he
  have e34 : s.2.1 34 h = nI b := congrArg (·.2.1) he
  obtain ⟨s1, p1, p2, p3⟩ := putM (n := n) (PgM.pop hP (nI h)) hbb
  rw [f_X12_writeAll_0, hh, if_neg (show ¬ nI (h + 1) ≤ 0 from nI_nle (by omega) (by omega)), hP.1, if_neg (show ¬ (8000 : Int32) < nI (min D.length 8100) from fun e => absurd ((nI_ltI (a := 8000) (by omega) (by omega)).mp e) (by omega)), nI_m1]
  simp only [uF_1, if_true, uF_2, inB_nI hb (show 30000 < 2 ^ 31 by omega), nI_cl (show h < 2 ^ 31 by omega), e33, e34]
  rw [p1, Option.bind_some]
  refine GoesM.mk p2 ?_ hb (by rw [len_app]; simp; omega) (by omega) ((hA.tr (AgW.pop s _)).tr p3.toW) (fun i hi => by rw [p3.entq]; rfl)
  rw [p3.1 31 (by decide)]
  rfl
/-- popping a formula -/
theorem popM {n : Nat} {s : StT} {D : List Nat} {h fu f : Nat} (hP : PgM s D) (hD : D.length ≤ 8000) (hh : s.1 31 = nI (h + 1)) (hb : h < 30000) (he : ∃ y z, ent s h = (1, nI f, y, z)) : f_X12_writeAll_0 n (fu + 1) s = (f_X12_putFormula n (uF s 31 (nI h)) (nI f)).bind fun q => f_X12_writeAll_0 n fu q := by
  obtain ⟨y, z, he⟩ := he
  have e33 : s.2.1 33 h = 1 := congrArg (·.1) he
  have e34 : s.2.1 34 h = nI f := congrArg (·.2.1) he
  rw [f_X12_writeAll_0, hh, if_neg (show ¬ nI (h + 1) ≤ 0 from nI_nle (by omega) (by omega)), hP.1, if_neg (show ¬ (8000 : Int32) < nI (min D.length 8100) from fun e => absurd ((nI_ltI (a := 8000) (by omega) (by omega)).mp e) (by omega)), nI_m1]
  simp only [uF_1, if_true, uF_2, inB_nI hb (show 30000 < 2 ^ 31 by omega), nI_cl (show h < 2 ^ 31 by omega), e33, e34, i10, if_false]
