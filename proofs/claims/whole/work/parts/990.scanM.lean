/-! ===== a token, in the reference ===== -/
def AgS (s s' : StT) : Prop := (∀ j, j ≠ 4 → j ≠ 5 → j ≠ 6 → j ≠ 7 → j ≠ 8 → s'.1 j = s.1 j) ∧ s'.2 = s.2
theorem sb_eq : ∀ b, b < 128 → sb b = nI b := by decide +kernel
theorem sg_lt : ∀ b, b < 256 → (sg8 true b = true → b < 128) := by decide +kernel
theorem sg_mono {tm : Bool} {b : Nat} (h : sg8 tm b = true) : sg8 true b = true := by
  cases tm with
  | true => exact h
  | false =>
    unfold sg8 at h ⊢
    simp only [Bool.false_and, Bool.or_false] at h
    rw [h]
    rfl
theorem signIs {tn : Nat} {bt : Nat → Nat} {i c : Nat} (hb : i < tn → bt i < 256) (hc : c < 128) : (if i < tn then sb (bt i) else (-1 : Int32)) = nI c ↔ (i < tn ∧ bt i = c) := by
  by_cases h : i < tn
  · rw [if_pos h, sb_low _ (hb h) c hc]
    exact ⟨fun e => ⟨h, e⟩, fun e => e.2⟩
  · rw [if_neg h]
    exact ⟨fun e => absurd e.symm (nI_ne_m1 (by omega)), fun e => absurd e.1 h⟩
theorem scan348M {n : Nat} {s : StT} {tm : Bool} (h9 : s.1 9 = mI tm) {b : Nat} (hb : b < 256) : f_X12_scan_348 n s (sb b) = some (uF s 5 (if sg8 tm b = true then nI b else 262)) := by
  unfold f_X12_scan_348
  rw [isSignM h9 hb, Option.bind_some]
  simp only []
  by_cases c : sg8 tm b = true
  · rw [if_neg (show ¬ mI (sg8 tm b) = 0 by rw [c]; decide), if_pos c, sb_eq b (sg_lt b hb (sg_mono c))]
  · have c' : sg8 tm b = false := by simpa using c
    rw [if_pos (show mI (sg8 tm b) = 0 by rw [c']; rfl), if_neg c]
