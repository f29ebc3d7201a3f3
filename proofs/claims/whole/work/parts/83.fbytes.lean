/-! ===== the bytes of a formula ===== -/
def sgn (k : Nat) : List Nat := if k = 5 then [45, 62] else if k = 3 then [38] else [124]
def fbF (t : FT) (nm : Nat → List Nat) : Nat → Nat → List Nat
  | 0, _ => []
  | d + 1, f => if t.2.1 f = 0 then [102, 97, 108, 115, 101] else if t.2.1 f = 1 then [116, 114, 117, 101] else if t.2.1 f = 2 then nm (t.2.2.1 f) else [40] ++ (fbF t nm d (t.2.2.1 f) ++ (sgn (t.2.1 f) ++ (fbF t nm d (t.2.2.2 f) ++ [41])))
def fb (t : FT) (nm : Nat → List Nat) (f : Nat) : List Nat := fbF t nm (f + 1) f
theorem fb_fuel {t : FT} {vn : Nat} {nm : Nat → List Nat} (hw : WFt t vn) : ∀ (d k : Nat), k < t.1 → k < d → fbF t nm d k = fb t nm k := by
  intro d
  induction d using Nat.strongRecOn with
  | ind d ih =>
    intro k hk hd
    unfold fb
    cases d with
    | zero => omega
    | succ d =>
      rcases Nat.eq_or_lt_of_le (Nat.lt_succ_iff.mp hd) with e | e
      · rw [e]
      · by_cases c : 3 ≤ t.2.1 k
        · have := hw.lo hk c
          have e0 : ∀ a, a < k → fbF t nm d a = fbF t nm k a := fun a ha => by rw [ih d (by omega) a (by omega) (by omega), ih k (by omega) a (by omega) (by omega)]
          rw [fbF, fbF, e0 _ this.1, e0 _ this.2]
        · rw [fbF, fbF]
          rcases (show t.2.1 k = 0 ∨ t.2.1 k = 1 ∨ t.2.1 k = 2 by omega) with z | z | z <;> simp [z]
theorem fb_0 {t : FT} {nm : Nat → List Nat} {k : Nat} (h : t.2.1 k = 0) : fb t nm k = [102, 97, 108, 115, 101] := by
  unfold fb; rw [fbF, if_pos h]
theorem fb_1 {t : FT} {nm : Nat → List Nat} {k : Nat} (h : t.2.1 k = 1) : fb t nm k = [116, 114, 117, 101] := by
  unfold fb; rw [fbF, if_neg (by omega), if_pos h]
theorem fb_2 {t : FT} {nm : Nat → List Nat} {k : Nat} (h : t.2.1 k = 2) : fb t nm k = nm (t.2.2.1 k) := by
  unfold fb; rw [fbF, if_neg (by omega), if_neg (by omega), if_pos h]
theorem fb_3 {t : FT} {vn : Nat} {nm : Nat → List Nat} {k : Nat} (hw : WFt t vn) (hk : k < t.1) (h : 3 ≤ t.2.1 k) : fb t nm k = [40] ++ (fb t nm (t.2.2.1 k) ++ (sgn (t.2.1 k) ++ (fb t nm (t.2.2.2 k) ++ [41]))) := by
  have := hw.lo hk h
  rw [← fb_fuel hw k (t.2.2.1 k) (by omega) (by omega), ← fb_fuel hw k (t.2.2.2 k) (by omega) (by omega)]
  unfold fb
  rw [fbF, if_neg (by omega), if_neg (by omega), if_neg (by omega)]
theorem sgn_ok (k : Nat) : 1 ≤ (sgn k).length ∧ (sgn k).length ≤ 2 ∧ ∀ b, b ∈ sgn k → b < 128 := by
  unfold sgn
  split
  · exact ⟨by decide, by decide, by decide⟩
  · split
    · exact ⟨by decide, by decide, by decide⟩
    · exact ⟨by decide, by decide, by decide⟩
theorem fb_ok {t : FT} {vn : Nat} {nm : Nat → List Nat} (hw : WFt t vn) (hN : NmW vn nm) : ∀ k, k < t.1 → 1 ≤ (fb t nm k).length ∧ ∀ b, b ∈ fb t nm k → b < 128 := by
  intro k
  induction k using Nat.strongRecOn with
  | ind k ih =>
    intro hk
    rcases (show t.2.1 k = 0 ∨ t.2.1 k = 1 ∨ t.2.1 k = 2 ∨ 3 ≤ t.2.1 k by omega) with c | c | c | c
    · rw [fb_0 c]; exact ⟨by decide, by decide⟩
    · rw [fb_1 c]; exact ⟨by decide, by decide⟩
    · rw [fb_2 c]
      have := hN _ (hw.var hk c).1
      exact ⟨this.1, fun b hb => (this.2.2 b hb).2⟩
    · have hl := hw.lo hk c
      have i1 := ih _ hl.1 (by omega)
      have i2 := ih _ hl.2 (by omega)
      have s1 := sgn_ok (t.2.1 k)
      rw [fb_3 hw hk c]
      refine ⟨by simp, fun b hb => ?_⟩
      simp only [List.mem_append, List.mem_singleton] at hb
      rcases hb with h | h | h | h | h
      · omega
      · exact i1.2 b h
      · exact s1.2.2 b h
      · exact i2.2 b h
      · omega
/-! the class's path: a number and, in the two lowest bits, how many parts were begun -/
theorem pth_and {f c : Nat} (hc : c < 4) : nI (4 * f + c) &&& 3 = nI c := by
  rw [pk_and _ (m := 3) 2 (by decide)]
  congr 1
  show (BitVec.ofNat 32 (4 * f + c)).toNat % 4 = c
  rw [BitVec.toNat_ofNat]
  omega
theorem pth_shr {f c : Nat} (hf : f < 100000) (hc : c < 4) : nI (4 * f + c) >>> ((2 : Int32) &&& 31) = nI f := by
  rw [pk_shrN (by omega) _ 2 (by decide)]
  congr 1
  omega
theorem pth_shl {f : Nat} (hf : f < 100000) : nI f <<< ((2 : Int32) &&& 31) = nI (4 * f) := by
  rw [pk_shlN _ 2 (by decide) (by omega)]
  congr 1
  omega
