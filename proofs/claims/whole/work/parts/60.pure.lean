/-! ===== pure: basics ===== -/
theorem uF_1 (s : StT) (k : Nat) (v : Int32) (j : Nat) : (uF s k v).1 j = if j = k then v else s.1 j := rfl
theorem uF_2 (s : StT) (k : Nat) (v : Int32) : (uF s k v).2 = s.2 := rfl
theorem uA_1 (s : StT) (k : Nat) (i v : Int32) : (uA s k i v).1 = s.1 := rfl
theorem uA_21 (s : StT) (k : Nat) (i v : Int32) (j : Nat) : (uA s k i v).2.1 j = if j = k then upd (s.2.1 j) i.toNatClampNeg v else s.2.1 j := rfl
theorem uA_22 (s : StT) (k : Nat) (i v : Int32) : (uA s k i v).2.2 = s.2.2 := rfl
theorem uL_1 (s : StT) (k : Nat) (v : Int64) : (uL s k v).1 = s.1 := rfl
theorem uL_21 (s : StT) (k : Nat) (v : Int64) : (uL s k v).2.1 = s.2.1 := rfl
theorem uL_221 (s : StT) (k : Nat) (v : Int64) (j : Nat) : (uL s k v).2.2.1 j = if j = k then v else s.2.2.1 j := rfl
theorem uL_222 (s : StT) (k : Nat) (v : Int64) : (uL s k v).2.2.2 = s.2.2.2 := rfl
theorem uM_1 (s : StT) (k : Nat) (i : Int32) (v : Int64) : (uM s k i v).1 = s.1 := rfl
theorem uM_21 (s : StT) (k : Nat) (i : Int32) (v : Int64) : (uM s k i v).2.1 = s.2.1 := rfl
theorem uM_221 (s : StT) (k : Nat) (i : Int32) (v : Int64) : (uM s k i v).2.2.1 = s.2.2.1 := rfl
theorem uM_222 (s : StT) (k : Nat) (i : Int32) (v : Int64) (j : Nat) : (uM s k i v).2.2.2 j = if j = k then vp_updL (s.2.2.2 j) i.toNatClampNeg v else s.2.2.2 j := rfl
theorem upd_at {α : Type} (f : Nat → Int32) (k : Nat) (v : Int32) (j : Nat) (_ : α) : upd f k v j = if j = k then v else f j := rfl
theorem upd_j (f : Nat → Int32) (k : Nat) (v : Int32) (j : Nat) : upd f k v j = if j = k then v else f j := rfl
theorem bnd {α β : Type} {a : α} {f : α → Option β} : (some a).bind f = f a := rfl
theorem inB_nI {i N : Nat} (h : i < N) (hN : N < 2 ^ 31) : inB (nI i) N = true := by
  unfold inB
  exact decide_eq_true (vp_in_nI h hN)
theorem nI_cl {i : Nat} (h : i < 2 ^ 31) : (nI i).toNatClampNeg = i := nI_clamp h
theorem nI_m1 {i : Nat} : nI (i + 1) - 1 = nI i := nI_pred i
theorem nI_neg1 : nI 0 - 1 = -1 := by decide
theorem nI_inj {a b : Nat} (ha : a < 2 ^ 31) (hb : b < 2 ^ 31) (h : nI a = nI b) : a = b := (nI_eq ha hb).mp h
theorem m1_neg : (-1 : Int32) < 0 := by decide
theorem nI_nneg {i : Nat} (h : i < 2 ^ 31) : ¬ nI i < 0 := nI_pos h
theorem nI_ne_m1 {i : Nat} (h : i < 2 ^ 31) : nI i ≠ -1 := fun e => nI_pos h (by rw [e]; decide)
/-! ===== formulas: chains ===== -/
def hsh (k a b : Int32) : Nat := ((k * 331 + a * 613 + b * 37) &&& 1023).toNatClampNeg
theorem hsh_e (k a b : Int32) : ((k * 331 + a * 613 + b * 37) &&& 1023) = nI (hsh k a b) ∧ hsh k a b < 1024 := by
  obtain ⟨j, hj, e⟩ := pk_andE (k * 331 + a * 613 + b * 37) (m := 1023) 10 (by decide)
  unfold hsh
  rw [e, nI_cl (by omega)]
  exact ⟨rfl, hj⟩
def lastH (h : Nat → Nat) (c : Nat) : Nat → Nat
  | 0 => 0
  | m + 1 => if h m = c then m + 1 else lastH h c m
theorem lastH_le (h : Nat → Nat) (c : Nat) : ∀ m, lastH h c m ≤ m := by
  intro m
  induction m with
  | zero => exact Nat.le_refl 0
  | succ m ih => unfold lastH; split <;> omega
theorem lastH_0 {h : Nat → Nat} {c : Nat} : ∀ {m : Nat}, lastH h c m = 0 → ∀ f, f < m → h f ≠ c := by
  intro m
  induction m with
  | zero => intro _ f hf; omega
  | succ m ih =>
    intro e f hf
    unfold lastH at e
    split at e
    · omega
    · rename_i hne
      by_cases hm : f = m
      · rw [hm]; exact hne
      · exact ih e f (by omega)
theorem lastH_s {h : Nat → Nat} {c : Nat} : ∀ {m j : Nat}, lastH h c m = j + 1 → j < m ∧ h j = c ∧ ∀ f, j < f → f < m → h f ≠ c := by
  intro m
  induction m with
  | zero => intro j e; unfold lastH at e; omega
  | succ m ih =>
    intro j e
    unfold lastH at e
    split at e
    · rename_i hm
      have : j = m := by omega
      subst this
      exact ⟨by omega, hm, fun f h1 h2 => by omega⟩
    · rename_i hne
      obtain ⟨h1, h2, h3⟩ := ih e
      refine ⟨by omega, h2, fun f g1 g2 => ?_⟩
      by_cases hm : f = m
      · rw [hm]; exact hne
      · exact h3 f g1 (by omega)
theorem lastH_congr {h h' : Nat → Nat} {c : Nat} : ∀ {m : Nat}, (∀ f, f < m → h f = h' f) → lastH h c m = lastH h' c m := by
  intro m
  induction m with
  | zero => intro _; rfl
  | succ m ih =>
    intro e
    unfold lastH
    rw [e m (by omega), ih (fun f hf => e f (by omega))]
theorem lastH_up {h h' : Nat → Nat} {c m : Nat} (e : ∀ f, f < m → h' f = h f) : lastH h' c (m + 1) = if h' m = c then m + 1 else lastH h c m := by
  rw [lastH, lastH_congr e]
/-- the outcome of a search for a row with M among the first fn -/
def FoundR (M : Nat → Prop) (fn : Nat) (r : Int32) : Prop := (∃ f, f < fn ∧ M f ∧ r = nI f) ∨ ((∀ f, f < fn → ¬ M f) ∧ r = -1)
def hF (kd fa fb : Nat → Nat) (f : Nat) : Nat := hsh (nI (kd f)) (nI (fa f)) (nI (fb f))
def isF (kd fa fb : Nat → Nat) (k a b : Nat) (f : Nat) : Prop := kd f = k ∧ fa f = a ∧ fb f = b
/-- numbers that fit -/
def fitF (fn : Nat) (kd fa fb : Nat → Nat) : Prop := fn ≤ 6000 ∧ ∀ f, f < fn → kd f < 100000 ∧ fa f < 100000 ∧ fb f < 100000
