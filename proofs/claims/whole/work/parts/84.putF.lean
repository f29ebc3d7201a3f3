/-! ===== putFormula, in the class ===== -/
def AgF (s s' : StT) : Prop := (∀ j, j ≠ 14 → s'.1 j = s.1 j) ∧ (∀ j, j ≠ 13 → j ≠ 14 → s'.2.1 j = s.2.1 j) ∧ s'.2.2 = s.2.2
theorem AgF.rf (s : StT) : AgF s s := ⟨fun _ _ => rfl, fun _ _ _ => rfl, rfl⟩
theorem AgF.tr {a b c : StT} (h : AgF a b) (g : AgF b c) : AgF a c := ⟨fun j hj => (g.1 j hj).trans (h.1 j hj), fun j h1 h2 => (g.2.1 j h1 h2).trans (h.2.1 j h1 h2), g.2.2.trans h.2.2⟩
theorem AgO.toF {a b : StT} (h : AgO a b) : AgF a b := ⟨h.1, fun j h1 _ => h.2.1 j h1, h.2.2⟩
theorem AgF.path (s : StT) (i v : Int32) : AgF s (uA s 14 i v) := ⟨fun _ _ => rfl, fun j _ h2 => by simp only [uA_21, h2, if_false], rfl⟩
theorem CFt.agF {s s' : StT} {t : FT} (a : AgF s s') (h : CFt s t) : CFt s' t := CFt.ag (a.1 6 (by decide)) (a.2.1 2 (by decide) (by decide)) (a.2.1 3 (by decide) (by decide)) (a.2.1 4 (by decide) (by decide)) (a.2.1 5 (by decide) (by decide)) (a.2.1 6 (by decide) (by decide)) h
theorem NmC.agF {s s' : StT} {vn : Nat} {nm : Nat → List Nat} (a : AgF s s') (h : NmC s vn nm) : NmC s' vn nm := fun v hv => by rw [a.2.2]; exact h v hv
theorem PgC.path {s : StT} {D : List Nat} (h : PgC s D) (i v : Int32) : PgC (uA s 14 i v) D := h
theorem overC {n : Nat} {s : StT} {D : List Nat} (h : PgC s D) : f_X10_overflows n s = some (if D.length ≤ 8000 then 0 else 1, s) := by
  unfold f_X10_overflows
  rw [h.1]
  by_cases c : D.length ≤ 8000
  · rw [if_pos (show nI (min D.length 8001) ≤ (8000 : Int32) from (nI_leI (b := 8000) (by omega) (by omega)).mpr (by omega)), if_pos c]
  · rw [if_neg (show ¬ nI (min D.length 8001) ≤ (8000 : Int32) from fun e => absurd ((nI_leI (b := 8000) (by omega) (by omega)).mp e) (by omega)), if_neg c]
theorem beginC {n : Nat} {s : StT} {top f : Nat} (ht : top < 2000) (hf : f < 2000) : f_X10_begin_21 n s (nI top) (nI f) = some (nI top, uA s 14 (nI top) (nI (4 * f))) := by
  unfold f_X10_begin_21
  rw [if_neg (nI_nneg (by omega)), if_neg (show ¬ (2000 : Int32) ≤ nI top from fun e => absurd ((nI_leI (a := 2000) (by omega) (by omega)).mp e) (by omega)), inB_nI ht (by omega), if_pos rfl, pth_shl (by omega)]
theorem nameOfC {n : Nat} {s : StT} {vn : Nat} {nm : Nat → List Nat} (h7 : s.1 7 = nI vn) (hvn : vn ≤ 24) (hN : NmC s vn nm) {v : Nat} (hv : v < vn) : f_X1_nameOf_F0 n s (nI v) = some (Int64.ofNat (pkN (nm v)), s) := by
  unfold f_X1_nameOf_F0
  rw [hasV h7 hvn (by omega), if_pos hv]
  simp only [bnd, i10, if_false]
  rw [inB_nI (show v < 24 by omega) (by omega), if_pos rfl, nI_cl (by omega), hN v hv]
/-- an atom -/
theorem atomC {n : Nat} (hn : 100000 ≤ n) {s : StT} {t : FT} {vn f : Nat} {nm : Nat → List Nat} {D : List Nat} (hC : CFt s t) (hw : WFt t vn) (h7 : s.1 7 = nI vn) (hN : NmC s vn nm) (hNW : NmW vn nm) (hf : f < t.1) (hk : t.2.1 f < 3) (hP : PgC s D) : ∃ s', f_X10_putAtom n s (nI (t.2.1 f)) (nI f) = some s' ∧ PgC s' (D ++ fb t nm f) ∧ AgO s s' := by
  have hbd := (fb_ok hw hNW f hf).2
  have hvn := hw.2.2.2.2.1
  obtain ⟨s', e1, e2, e3⟩ := putL_ok (n := n) (fb t nm f) s D hP hbd
  unfold f_X10_putAtom
  rcases (show t.2.1 f = 0 ∨ t.2.1 f = 1 ∨ t.2.1 f = 2 by omega) with c | c | c
  · rw [fb_0 c] at e1
    rw [c, if_neg (by decide), if_neg (by decide), word_s3 hn, e1]
    exact ⟨s', rfl, e2, e3⟩
  · rw [fb_1 c] at e1
    rw [c, if_neg (by decide), if_pos (by decide), word_s2 hn, e1]
    exact ⟨s', rfl, e2, e3⟩
  · have hv := (hw.var hf c).1
    have hnw := hNW _ hv
    rw [fb_2 c] at e1
    rw [c, if_pos (by decide), firstOfF0 hC hf]
    simp only [bnd]
    rw [nameOfC h7 hvn hN hv]
    simp only [bnd]
    rw [putNameC hn hnw.2.1 hnw.2.2, e1]
    exact ⟨s', rfl, e2, e3⟩
theorem signC {n : Nat} (hn : 100000 ≤ n) {s : StT} {k : Nat} {D : List Nat} (hk : k < 100) (hP : PgC s D) : ∃ s', f_X10_putSign n s (nI k) = some s' ∧ PgC s' (D ++ sgn k) ∧ AgO s s' := by
  obtain ⟨s', e1, e2, e3⟩ := putL_ok (n := n) (sgn k) s D hP (sgn_ok k).2.2
  unfold f_X10_putSign
  refine ⟨s', ?_, e2, e3⟩
  have one : ∀ b, putL n [b] s = f_X10_put n s (nI b) := by
    intro b
    rw [putL]
    cases f_X10_put n s (nI b) <;> rfl
  by_cases c5 : k = 5
  · subst c5
    rw [if_pos (by decide), word_s4 hn]
    have : sgn 5 = [45, 62] := rfl
    rw [← this, e1]
    rfl
  · rw [if_neg (show ¬ nI k = (5 : Int32) from fun e => c5 (nI_inj (b := 5) (by omega) (by omega) e))]
    by_cases c3 : k = 3
    · subst c3
      rw [if_pos (by decide), show (38 : Int32) = nI 38 from rfl, ← one]
      have : sgn 3 = [38] := rfl
      rw [← this, e1]
      rfl
    · rw [if_neg (show ¬ nI k = (3 : Int32) from fun e => c3 (nI_inj (b := 3) (by omega) (by omega) e)), show (124 : Int32) = nI 124 from rfl, ← one]
      have : sgn k = [124] := by unfold sgn; rw [if_neg c5, if_neg c3]
      rw [← this, e1]
      rfl
/-- what is left to do, and what comes out -/
def GoesC (n : Nat) (s0 : StT) (r : Option StT) (D' : List Nat) (top : Nat) (pth : Nat → Int32) : Prop := (D'.length ≤ 8000 ∧ ∃ (s' : StT) (fu' turn' : Nat), r = f_X10_putFormula_12 n fu' s' (nI top - 1) (nI turn') ∧ PgC s' D' ∧ turn' ≤ D'.length ∧ 16010 ≤ fu' + turn' ∧ AgF s0 s' ∧ ∀ i, i < top → s'.2.1 14 i = pth i) ∨ (8000 < D'.length ∧ ∃ s', r = some s' ∧ s'.1 14 = nI 8001 ∧ AgF s0 s')
