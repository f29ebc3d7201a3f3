/-! ===== a token: its class's code, its reference's code, its size ===== -/
def tk (tm : Bool) (tn : Nat) (bt : Nat → Nat) (q : Nat) : Int32 × Int32 × Nat :=
  if q < tn then
    if lt8 (bt q) = true then (if nx tn bt q - q ≤ 6 then (wdC (wd (bts bt q (nx tn bt q - q))), wdM (wd (bts bt q (nx tn bt q - q))), nx tn bt q - q) else (-1, 262, 0))
    else if bt q = 45 ∧ q + 1 < tn ∧ bt (q + 1) = 62 then (62, 260, 2)
    else if bt q = 60 ∧ (q + 1 < tn ∧ bt (q + 1) = 45) ∧ q + 2 < tn ∧ bt (q + 2) = 62 then (61, 261, 3)
    else if sg8 tm (bt q) = true then (nI (bt q), nI (bt q), 1) else (-1, 262, 0)
  else (0, 256, 0)
/-- what a scan leaves as it is, in the class -/
def AgK (s s' : StT) : Prop := (∀ j, j ≠ 3 → j ≠ 4 → j ≠ 5 → s'.1 j = s.1 j) ∧ s'.2.1 = s.2.1 ∧ s'.2.2.2 = s.2.2.2 ∧ ∀ j, j ≠ 0 → s'.2.2.1 j = s.2.2.1 j
theorem byteIs {tn : Nat} {bt : Nat → Nat} {i c : Nat} (hb : i < tn → bt i < 256) (hc : c < 256) : (if i < tn then nI (bt i) else (-1 : Int32)) = nI c ↔ (i < tn ∧ bt i = c) := by
  by_cases h : i < tn
  · rw [if_pos h]
    have := hb h
    exact ⟨fun e => ⟨h, nI_inj (by omega) (by omega) e⟩, fun e => by rw [e.2]⟩
  · rw [if_neg h]
    exact ⟨fun e => absurd e.symm (nI_ne_m1 (by omega)), fun e => absurd e.1 h⟩
theorem tokC (n : Nat) (s : StT) {q : Nat} (h4 : s.1 4 = nI q) (c : Int32) (x : Nat) : f_X8_token n s c (nI x) = some (uF (uF s 3 c) 5 (nI (q + x))) := by
  unfold f_X8_token
  rw [show (uF s 3 c).1 4 = nI q from h4, nI_add]
/-- the signs -/
theorem scan158C {n : Nat} (hn : 100000 ≤ n) {s : StT} {tm : Bool} (h1 : s.1 1 = mI tm) {q b : Nat} (h4 : s.1 4 = nI q) (hb : b < 256) : f_X8_scanSign_90 n s (nI b) = some (if sg8 tm b = true then uF (uF s 3 (nI b)) 5 (nI (q + 1)) else uF (uF s 3 (-1)) 5 (nI q)) := by
  have t1 := tokC n s h4 (nI b) 1
  have t0 := tokC n s h4 (-1) 0
  rw [show nI 1 = (1 : Int32) from rfl] at t1
  rw [nI_0, Nat.add_zero] at t0
  unfold f_X8_scanSign_90
  obtain ⟨r0, e1, e2⟩ := idx0 hn (s := s) hb
  obtain ⟨r1, g1, g2⟩ := idx1 hn (s := s) hb
  rw [e1, Option.bind_some]
  simp only []
  have e2 := e2.trans (sg_0 b hb)
  have g2 := g2.trans (sg_1 b hb)
  have mono : sg8 false b = true → sg8 tm b = true := by
    intro h
    unfold sg8 at h ⊢
    simp only [Bool.false_and, Bool.or_false] at h
    rw [h]
    rfl
  by_cases c0 : sg8 false b = true
  · rw [if_pos (e2.mpr c0), t1, Option.bind_some, if_pos (mono c0)]
  · rw [if_neg (fun e => c0 (e2.mp e)), h1]
    cases tm with
    | false =>
      rw [if_pos (show mI false = 0 from rfl), t0, Option.bind_some, if_neg c0]
    | true =>
      rw [if_neg (show ¬ mI true = 0 by decide), g1, Option.bind_some]
      simp only []
      by_cases c1 : sg8 true b = true
      · rw [if_neg (show ¬ r1 < 0 from fun e => absurd (g2.mpr ⟨c1, by simpa using c0⟩) (Int32.not_le.mpr e)), t1, Option.bind_some, if_pos c1]
      · rw [if_pos (show r1 < 0 from Int32.not_le.mp (fun e => c1 (g2.mp e).1)), t0, Option.bind_some, if_neg c1]
