/-! ===== the main loops: how a turn begins ===== -/
theorem beginM_23 {n : Nat} {s : StT} {q : Int32 × StT} (h : f_X12_begin n s = some q) : q.1 = 2 ∨ q.1 = 3 := by
  unfold f_X12_begin at h
  split at h
  · rw [← Option.some.inj h]; exact Or.inr rfl
  · split at h
    · split at h
      · rw [← Option.some.inj h]; exact Or.inr rfl
      · split at h
        · rw [← Option.some.inj h]; exact Or.inl rfl
        · rw [← Option.some.inj h]; exact Or.inl rfl
    · cases h
/-- after a premise is laid the reference goes round as after its first beginning -/
theorem search_laid {n k : Nat} {s : StT} {x2 : Int32} : ((f_X12_begin n s).bind fun q55 => (f_X12_search_69 n (f_X12_search_10 n (k + 1)) q55.2 q55.1 x2)) = ((f_X12_begin n s).bind fun q6 => (f_X12_search_10 n (k + 1) q6.2 q6.1)) := by
  cases h : f_X12_begin n s with
  | none => rfl
  | some q =>
    rw [Option.bind_some, Option.bind_some]
    unfold f_X12_search_69 f_X12_search_81
    rcases beginM_23 h with e | e
    · rw [e, if_pos (show (2 : Int32) ≤ 2 by decide), if_neg (show ¬ (2 : Int32) = 3 by decide)]
    · rw [e, if_pos (show (2 : Int32) ≤ 3 by decide), if_pos rfl]
      unfold f_X12_search_10 f_X12_search_94
      rw [if_neg (show ¬ (3 : Int32) = 2 by decide), if_pos rfl, if_pos (show (2 : Int32) ≤ 3 by decide)]
      split <;> rfl
/-- numbers of the whole search: steps, limit, deepest; turn -/
def NB (sC sM : StT) (st lim dp : Nat) : Prop := sC.1 20 = nI st ∧ sM.1 20 = nI st ∧ sC.1 19 = nI lim ∧ sM.1 21 = nI lim ∧ sC.1 21 = nI dp ∧ sM.1 23 = nI dp ∧ st ≤ lim ∧ lim ≤ 2000 ∧ dp ≤ 200
def sE (Lv : Nat → LD) : Nat → Nat
  | 0 => 0
  | d + 1 => sE Lv d + em (Lv d)
theorem sE_cg {Lv Lv' : Nat → LD} : ∀ {d : Nat}, (∀ k, k < d → Lv' k = Lv k) → sE Lv' d = sE Lv d := by
  intro d
  induction d with
  | zero => intro _; rfl
  | succ d ih => intro h; show sE Lv' d + em (Lv' d) = sE Lv d + em (Lv d); rw [ih (fun k hk => h k (by omega)), h d (by omega)]
/-- a premise is laid: level d is to begin -/
def INL (D : HD) (Lv : Nat → LD) (d NC NR nC nM mo st lim dp turn : Nat) (sC sM : StT) : Prop :=
  SB sC sM D NC NR nC nM mo ∧ LO sC sM D.1 NC NR d Lv ∧ RR sC sM D.1.1 NC NR d (Lv d).1 ∧ (Lv d).2.2.1 = (nC, nM, nC, nM) ∧ lsL (Lv d) = [] ∧ d ≤ 200 ∧ NB sC sM st lim dp ∧ sM.1 19 = nI d + -1 ∧ turn + d = 2 * st ∧ NC + d ≤ 28 + 9 * st ∧ NR + 2 * d ≤ 31 + 13 * st ∧ nC + d ≤ st ∧ nM + sE Lv d ≤ st
/-- the frame of one head -/
def YC (s s' : StT) : Prop := (∀ j, j ≠ 6 → j ≠ 16 → j ≠ 17 → j ≠ 18 → j ≠ 20 → j ≠ 21 → j ≠ 24 → s'.1 j = s.1 j) ∧ (∀ j, (j < 2 ∨ (6 < j ∧ j < 16) ∨ 34 < j) → s'.2.1 j = s.2.1 j) ∧ s'.2.2 = s.2.2
def YM (s s' : StT) : Prop := (∀ j, j ≠ 0 → j ≠ 18 → j ≠ 19 → j ≠ 20 → j ≠ 22 → j ≠ 23 → j ≠ 24 → j ≠ 25 → j ≠ 26 → j ≠ 30 → s'.1 j = s.1 j) ∧ (∀ j, ((2 < j ∧ j < 14) ∨ 32 < j) → s'.2.1 j = s.2.1 j) ∧ s'.2.2 = s.2.2
theorem XC.y {s s' : StT} (h : XC s s') : YC s s' := ⟨fun j a b c d _ _ e => h.1 j a b c d e, h.2.1, h.2.2⟩
theorem XM.y {s s' : StT} (h : XM s s') : YM s s' := ⟨fun j a b _ _ c _ d e f g => h.1 j a b c d e f g, h.2.1, h.2.2⟩
theorem YC.tr {a b c : StT} (x : YC a b) (y : YC b c) : YC a c := ⟨fun j p q r s t u v => (y.1 j p q r s t u v).trans (x.1 j p q r s t u v), fun j p => (y.2.1 j p).trans (x.2.1 j p), y.2.2.trans x.2.2⟩
theorem YM.tr {a b c : StT} (x : YM a b) (y : YM b c) : YM a c := ⟨fun j p q r s t u v w z k => (y.1 j p q r s t u v w z k).trans (x.1 j p q r s t u v w z k), fun j p => (y.2.1 j p).trans (x.2.1 j p), y.2.2.trans x.2.2⟩
/-- the states in which a level's first turn is done -/
def hdC (s : StT) (d st dp : Nat) : StT := uA (uA (uF (uF s 20 (nI (st + 1))) 21 (nI (if dp < d + 1 then d + 1 else dp))) 29 (nI d) (-1)) 30 (nI d) (-1)
def hdM (s : StT) (d st dp : Nat) : StT := uA (uF (uF (uA (uF s 19 (nI d)) 25 (nI d) 0) 20 (nI (st + 1))) 23 (nI (if dp < d + 1 then d + 1 else dp))) 28 (nI d) (-1)
theorem headC {n : Nat} {s : StT} {d st lim dp : Nat} (hd : d < 200) (h20 : s.1 20 = nI st) (h19 : s.1 19 = nI lim) (h21 : s.1 21 = nI dp) (hdp : dp ≤ 200) (hl : lim ≤ 2000) (hst : st < lim) : f_X5_begin n s (nI d) = openC n (hdC s d st dp) (nI d) := by
  unfold f_X5_begin f_X4_begin openC
  rw [if_neg (nI_nneg (by omega)), if_pos (show nI d < (200 : Int32) from (nI_ltI (b := 200) (by omega) (by omega)).mpr hd), h20, h19, if_pos ((nI_ltI (by omega) (by omega)).mpr hst), if_neg (nI_nneg (by omega)), if_neg (show ¬ (200 : Int32) ≤ nI d from fun x => absurd ((nI_leI (a := 200) (by omega) (by omega)).mp x) (by omega)), inB_nI (show d < 200 by omega) (by omega), if_pos rfl, if_pos rfl, Option.bind_some, nI_1, nI_1, show (uF s 20 (nI (st + 1))).1 21 = nI dp from h21]
  have e : (if nI dp < nI (d + 1) then nI (d + 1) else nI dp) = nI (if dp < d + 1 then d + 1 else dp) := by
    by_cases c : dp < d + 1
    · rw [if_pos c, if_pos ((nI_ltI (by omega) (by omega)).mpr c)]
    · rw [if_neg c, if_neg (fun x => c ((nI_ltI (by omega) (by omega)).mp x))]
  rw [e]
  rfl
theorem headM {n : Nat} {s : StT} {d st lim dp k : Nat} (hd : d < 200) (h20 : s.1 20 = nI st) (h21 : s.1 21 = nI lim) (h23 : s.1 23 = nI dp) (h19 : s.1 19 = nI d + -1) (hdp : dp ≤ 200) (hl : lim ≤ 2000) (hst : st < lim) : ((f_X12_begin n s).bind fun q6 => (f_X12_search_10 n (k + 1) q6.2 q6.1)) = ((f_X12_opened n (hdM s d st dp) (nI d)).bind fun q55 => (f_X12_search_69 n (f_X12_search_10 n k) q55.2 q55.1 (nI d))) := by
  have e19 : nI d + -1 + (1 : Int32) = nI d := by rw [Int32.add_assoc]; show nI d + 0 = nI d; exact Int32.add_zero _
  have hne : ¬ nI d + -1 = (199 : Int32) := fun x => by
    have : nI d = nI 200 := by rw [← e19, x]; rfl
    have := nI_inj (by omega) (by omega) this; omega
  have hsl : ¬ nI st = nI lim := fun x => by have := nI_inj (by omega) (by omega) x; omega
  have eb : f_X12_begin n s = some (2, uF (uF (uA (uF s 19 (nI d)) 25 (nI d) 0) 20 (nI (st + 1))) 23 (nI (if dp < d + 1 then d + 1 else dp))) := by
    unfold f_X12_begin
    rw [h19, if_neg hne, e19]
    simp only [uF_1, uA_1, if_true, if_neg (show ¬ (20 : Nat) = 19 by decide), if_neg (show ¬ (21 : Nat) = 19 by decide), if_neg (show ¬ (19 : Nat) = 20 by decide), if_neg (show ¬ (23 : Nat) = 20 by decide), if_neg (show ¬ (23 : Nat) = 19 by decide), h20, h21, h23, nI_1]
    rw [inB_nI (show d < 201 by omega) (by omega), if_pos rfl, if_neg hsl]
    by_cases c : dp < d + 1
    · rw [if_pos c, if_neg (fun x => by have := (nI_leI (by omega) (by omega)).mp x; omega)]
    · rw [if_neg c, if_pos ((nI_leI (by omega) (by omega)).mpr (by omega))]
  rw [eb, Option.bind_some]
  simp only []
  unfold f_X12_search_10
  rw [if_pos rfl]
  unfold f_X12_search_27
  simp only [uF_1, uA_1, uF_2, uA_21, if_true, if_neg (show ¬ (19 : Nat) = 23 by decide), if_neg (show ¬ (19 : Nat) = 20 by decide), upd_j, nI_cl (show d < 2 ^ 31 by omega)]
  rw [inB_nI (show d < 201 by omega) (by omega)]
  simp only [if_true]
  rfl
