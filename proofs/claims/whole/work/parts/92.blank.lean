theorem some_ite {c : Prop} [Decidable c] (a b : Int32) (s : StT) : some ((if c then a else b), s) = if c then some (a, s) else some (b, s) := by split <;> rfl
def sgI (z x : Int32) : Int32 := if x = 40 then 1 else (if x = 41 then 1 else (if x = 38 then 1 else (if x = 124 then 1 else (if x = 126 then 1 else (if z = 0 then 0 else (if x = 44 then 1 else (if x = 84 then 1 else (if x = 76 then 1 else (if x = 65 then 1 else (if x = 80 then 1 else (if x = 70 then 1 else (if x = 83 then 1 else (if x = 73 then 1 else (if x = 74 then 1 else (if x = 67 then 1 else (if x = 88 then 1 else (0)))))))))))))))))
theorem isSign_e (n : Nat) (s : StT) (x : Int32) : f_X12_isSign n s x = some (sgI (s.1 9) x, s) := by
  unfold f_X12_isSign sgI
  simp only [some_ite]
theorem sgI_0 : ∀ b, b < 256 → sgI 0 (sb b) = mI (sg8 false b) := by decide +kernel
theorem sgI_1 : ∀ b, b < 256 → sgI 1 (sb b) = mI (sg8 true b) := by decide +kernel
theorem isSignM {n : Nat} {s : StT} {tm : Bool} (h9 : s.1 9 = mI tm) {b : Nat} (hb : b < 256) : f_X12_isSign n s (sb b) = some (mI (sg8 tm b), s) := by
  rw [isSign_e, h9]
  cases tm with
  | false => rw [show mI false = 0 from rfl, sgI_0 b hb]
  | true => rw [show mI true = 1 from rfl, sgI_1 b hb]
/-! ===== blanks ===== -/
def skF (tn : Nat) (bt : Nat → Nat) : Nat → Nat → Nat
  | 0, p => p
  | d + 1, p => if p < tn ∧ bl8 (bt p) = true then skF tn bt d (p + 1) else p
/-- the first place from p on that is no blank -/
def sk (tn : Nat) (bt : Nat → Nat) (p : Nat) : Nat := skF tn bt (tn - p) p
theorem sk_e {tn : Nat} {bt : Nat → Nat} {p : Nat} : sk tn bt p = if p < tn ∧ bl8 (bt p) = true then sk tn bt (p + 1) else p := by
  unfold sk
  by_cases c : p < tn
  · obtain ⟨d, hd⟩ : ∃ d, tn - p = d + 1 := ⟨tn - p - 1, by omega⟩
    rw [hd, skF, show tn - (p + 1) = d by omega]
  · rw [show tn - p = 0 by omega, skF, if_neg (fun e => c e.1)]
theorem sk_bd {tn : Nat} {bt : Nat → Nat} : ∀ (d p : Nat), p + d = tn → p ≤ sk tn bt p ∧ sk tn bt p ≤ tn ∧ (sk tn bt p < tn → bl8 (bt (sk tn bt p)) = false) := by
  intro d
  induction d with
  | zero =>
    intro p hp
    rw [sk_e, if_neg (fun e => by omega)]
    exact ⟨Nat.le_refl _, by omega, fun e => by omega⟩
  | succ d ih =>
    intro p hp
    rw [sk_e]
    by_cases c : bl8 (bt p) = true
    · rw [if_pos ⟨by omega, c⟩]
      have := ih (p + 1) (by omega)
      exact ⟨by omega, this.2.1, this.2.2⟩
    · rw [if_neg (fun e => c e.2)]
      exact ⟨Nat.le_refl _, by omega, fun _ => by simpa using c⟩
/-- the class skips blanks -/
theorem blankC {n : Nat} {tn : Nat} {bt : Nat → Nat} : ∀ (d p fu : Nat) (s : StT), p + d = tn → d < fu → TxC s tn bt → s.1 4 = nI p → ∃ s', f_X8_look_20 n fu s = f_X8_look_58 n s' ∧ s'.1 4 = nI (sk tn bt p) ∧ (∀ j, j ≠ 4 → s'.1 j = s.1 j) ∧ s'.2 = s.2 := by
  intro d
  induction d with
  | zero =>
    intro p fu s hp hfu hT h4
    obtain ⟨fu, rfl⟩ : ∃ q, fu = q + 1 := ⟨fu - 1, by omega⟩
    have := hT.1
    rw [f_X8_look_20, hT.2.1, h4, if_pos ((nI_leI (by omega) (by omega)).mpr (by omega)), sk_e, if_neg (fun e => by omega)]
    exact ⟨s, rfl, h4, fun _ _ => rfl, rfl⟩
  | succ d ih =>
    intro p fu s hp hfu hT h4
    obtain ⟨fu, rfl⟩ : ∃ q, fu = q + 1 := ⟨fu - 1, by omega⟩
    have := hT.1
    have hb := (hT.2.2 p (by omega)).2
    rw [f_X8_look_20, hT.2.1, h4, if_neg (fun e => absurd ((nI_leI (by omega) (by omega)).mp e) (by omega)), byteAtC hT (by omega), if_pos (by omega), Option.bind_some]
    show ∃ s', ((f_X8_isBlank n s (nI (bt p))).bind fun q26 => (if q26.1 = 0 then (f_X8_look_58 n q26.2) else (f_X8_look_20 n fu (uF q26.2 4 (q26.2.1 4 + (1 : Int32)))))) = f_X8_look_58 n s' ∧ _
    rw [isBlankC hb, Option.bind_some, sk_e]
    by_cases c : bl8 (bt p) = true
    · rw [if_neg (show ¬ mI (bl8 (bt p)) = 0 by rw [c]; decide), if_pos ⟨by omega, c⟩]
      simp only []
      rw [h4, nI_1]
      obtain ⟨s', e1, e2, e3, e4⟩ := ih (p + 1) fu (uF s 4 (nI (p + 1))) (by omega) (by omega) ⟨hT.1, hT.2.1, hT.2.2⟩ rfl
      exact ⟨s', e1, e2, fun j hj => by rw [e3 j hj]; simp only [uF_1, hj, if_false], e4⟩
    · have c' : bl8 (bt p) = false := by simpa using c
      rw [if_pos (show mI (bl8 (bt p)) = 0 by rw [c']; rfl), if_neg (fun e => c e.2)]
      exact ⟨s, rfl, h4, fun _ _ => rfl, rfl⟩
theorem bl_M : ∀ b, b < 256 → ((sb b = 9 ∨ sb b = 10 ∨ sb b = 13 ∨ sb b = 32) ↔ bl8 b = true) := by decide +kernel
/-- the reference skips blanks -/
theorem blankM {n : Nat} {tn : Nat} {bt : Nat → Nat} : ∀ (d p fu : Nat) (s : StT), p + d = tn → d < fu → TxM s tn bt → s.1 4 = nI p → ∃ s', f_X12_scan_0 n fu s = f_X12_scan_80 n s' ∧ s'.1 4 = nI (sk tn bt p) ∧ (∀ j, j ≠ 4 → s'.1 j = s.1 j) ∧ s'.2 = s.2 := by
  intro d
  induction d with
  | zero =>
    intro p fu s hp hfu hT h4
    obtain ⟨fu, rfl⟩ : ∃ q, fu = q + 1 := ⟨fu - 1, by omega⟩
    have := hT.1
    rw [f_X12_scan_0, hT.2.1, h4, if_pos ((nI_leI (by omega) (by omega)).mpr (by omega)), sk_e, if_neg (fun e => by omega)]
    exact ⟨s, rfl, h4, fun _ _ => rfl, rfl⟩
  | succ d ih =>
    intro p fu s hp hfu hT h4
    obtain ⟨fu, rfl⟩ : ∃ q, fu = q + 1 := ⟨fu - 1, by omega⟩
    have := hT.1
    obtain ⟨ht, hb⟩ := hT.2.2 p (by omega)
    have hm := bl_M (bt p) hb
    rw [f_X12_scan_0, hT.2.1, h4, if_neg (fun e => absurd ((nI_leI (by omega) (by omega)).mp e) (by omega)), nI_cl (by omega), ht, sk_e]
    simp only [inB_nI (show p < 3000 by omega) (show 3000 < 2 ^ 31 by omega), if_true]
    by_cases c : bl8 (bt p) = true
    · have go : f_X12_scan_67 n (f_X12_scan_0 n fu) s = f_X12_scan_0 n fu (uF s 4 (nI (p + 1))) := by
        unfold f_X12_scan_67
        rw [h4, nI_1]
      rw [if_pos (show p < tn ∧ bl8 (bt p) = true from ⟨by omega, c⟩), go]
      obtain ⟨s', e1, e2, e3, e4⟩ := ih (p + 1) fu (uF s 4 (nI (p + 1))) (by omega) (by omega) ⟨hT.1, hT.2.1, hT.2.2⟩ rfl
      refine ⟨s', ?_, e2, fun j hj => by rw [e3 j hj]; simp only [uF_1, hj, if_false], e4⟩
      rcases hm.mpr c with z | z | z | z <;> simp [z, e1]
    · have hn : ¬ (sb (bt p) = 9 ∨ sb (bt p) = 10 ∨ sb (bt p) = 13 ∨ sb (bt p) = 32) := fun e => c (hm.mp e)
      rw [if_neg (fun e => hn (Or.inl e)), if_neg (fun e => hn (Or.inr (Or.inl e))), if_neg (fun e => hn (Or.inr (Or.inr (Or.inl e)))), if_neg (fun e => hn (Or.inr (Or.inr (Or.inr e)))), if_neg (fun e => c e.2)]
      exact ⟨s, rfl, h4, fun _ _ => rfl, rfl⟩
