/-! ===== how terms are put together, and rows with their terms ===== -/
theorem TT.up {sC sM : StT} {F h h' c r n : Nat} {S : Nat → Nat} (a : TT sC sM F h c r n S) (hh : h ≤ h') : TT sC sM F h' c r n S := a.mv (Nat.le_refl _) hh (fun _ _ => rfl) (fun _ _ _ _ => rfl) (fun _ _ _ => rfl) (fun _ _ _ _ _ => rfl)
theorem TTx.bd {sC sM : StT} {F c r n : Nat} {S : Nat → Nat} (a : TTx sC sM F c r n S) : c < 40000 ∧ r < 60000 ∧ n < 1000 := by obtain ⟨h, a⟩ := a; exact a.bd
theorem TTx.moved {sC sM : StT} {F c r r1 n m : Nat} {S : Nat → Nat} (hr : r < 60000) (hn : n < 1000) (hm : m ≤ n) (h1 : r1 < r) (k1 : sM.2.1 14 r = 77) (k2 : sM.2.1 15 r = nI m) (k3 : sM.2.1 16 r = nI r1) (hS : ∀ k, m ≤ k → k < n → NBx sC c (S k)) (a : TTx sC sM F c r1 m S) : TTx sC sM F c r n S := by
  obtain ⟨h, a⟩ := a
  exact ⟨h + 1, a.bd.1, hr, hn, Or.inl ⟨k1, m, r1, hm, h1, k2, k3, hS, a⟩⟩
theorem TTx.hyp {sC sM : StT} {F c r n k : Nat} {S : Nat → Nat} (hc : c < 40000) (hr : r < 60000) (hn : n < 1000) (k1 : sM.2.1 14 r = 72) (k2 : sC.2.1 16 c = 104) (hk : k < n) (k3 : sM.2.1 15 r = nI k) (k4 : c = S k) : TTx sC sM F c r n S := ⟨1, hc, hr, hn, Or.inr (Or.inl ⟨k1, k2, k, hk, k3, k4⟩)⟩
theorem TTx.unit {sC sM : StT} {F c r n : Nat} {S : Nat → Nat} (hc : c < 40000) (hr : r < 60000) (hn : n < 1000) (k1 : sM.2.1 14 r = 84) (k2 : sC.2.1 16 c = 84) : TTx sC sM F c r n S := ⟨1, hc, hr, hn, Or.inr (Or.inr (Or.inl ⟨k1, k2⟩))⟩
theorem TTx.lam {sC sM : StT} {F c r n f c1 r1 b : Nat} {S : Nat → Nat} (hc : c < 40000) (hr : r < 60000) (hn : n < 1000) (k1 : sM.2.1 14 r = 76) (k2 : sC.2.1 16 c = 76) (hf : f < F) (k3 : sC.2.1 18 c = nI f) (k4 : sM.2.1 15 r = nI f) (h1 : c1 < c) (k5 : sC.2.1 17 c = nI c1) (h2 : r1 < r) (k6 : sM.2.1 16 r = nI r1) (hb : (sC.2.1 20 c = nI b ∧ b < c ∧ sC.2.1 16 b = 104 ∧ ∀ k, k < n → S k ≠ b) ∨ (sC.2.1 20 c = -1 ∧ b = 50000)) (a : TTx sC sM F c1 r1 (n + 1) (updN S n b)) : TTx sC sM F c r n S := by
  obtain ⟨h, a⟩ := a
  exact ⟨h + 1, hc, hr, hn, Or.inr (Or.inr (Or.inr (Or.inl ⟨k1, k2, f, c1, r1, b, hf, k3, k4, h1, k5, h2, k6, hb, a⟩)))⟩
theorem TTx.one {sC sM : StT} {F c r n k c1 r1 : Nat} {S : Nat → Nat} (hc : c < 40000) (hr : r < 60000) (hn : n < 1000) (hk : k ∈ [70, 83, 73, 74, 88]) (k1 : sM.2.1 14 r = nI k) (k2 : sC.2.1 16 c = nI k) (h1 : c1 < c) (k5 : sC.2.1 17 c = nI c1) (h2 : r1 < r) (k6 : sM.2.1 16 r = nI r1) (k7 : sM.2.1 17 r = -1) (a : TTx sC sM F c1 r1 n S) : TTx sC sM F c r n S := by
  obtain ⟨h, a⟩ := a
  exact ⟨h + 1, hc, hr, hn, Or.inr (Or.inr (Or.inr (Or.inr (Or.inl ⟨k, c1, r1, hk, k1, k2, h1, k5, h2, k6, k7, a⟩))))⟩
theorem TTx.two {sC sM : StT} {F c r n k c1 r1 c2 r2 : Nat} {S : Nat → Nat} (hc : c < 40000) (hr : r < 60000) (hn : n < 1000) (hk : k ∈ [65, 80]) (k1 : sM.2.1 14 r = nI k) (k2 : sC.2.1 16 c = nI k) (h1 : c1 < c) (k5 : sC.2.1 17 c = nI c1) (h2 : r1 < r) (k6 : sM.2.1 16 r = nI r1) (h3 : c2 < c) (k7 : sC.2.1 18 c = nI c2) (h4 : r2 < r) (k8 : sM.2.1 17 r = nI r2) (a : TTx sC sM F c1 r1 n S) (b : TTx sC sM F c2 r2 n S) : TTx sC sM F c r n S := by
  obtain ⟨h, a⟩ := a
  obtain ⟨h', b⟩ := b
  exact ⟨h + h' + 1, hc, hr, hn, Or.inr (Or.inr (Or.inr (Or.inr (Or.inr (Or.inl ⟨k, c1, r1, c2, r2, hk, k1, k2, h1, k5, h2, k6, h3, k7, h4, k8, a.up (by omega), b.up (by omega)⟩)))))⟩
theorem TTx.cas {sC sM : StT} {F c r n c1 r1 c2 r2 c3 r3 b : Nat} {S : Nat → Nat} (hc : c < 40000) (hr : r < 60000) (hn : n < 1000) (k1 : sM.2.1 14 r = 67) (k2 : sC.2.1 16 c = 67) (h1 : c1 < c) (k5 : sC.2.1 17 c = nI c1) (h2 : r1 < r) (k6 : sM.2.1 16 r = nI r1) (h3 : c2 < c) (k7 : sC.2.1 18 c = nI c2) (h4 : r2 < r) (k8 : sM.2.1 17 r = nI r2) (h5 : c3 < c) (k9 : sC.2.1 19 c = nI c3) (h6 : r3 < r) (k10 : sM.2.1 18 r = nI r3) (hb : sC.2.1 20 c = nI b ∧ b < c ∧ sC.2.1 16 b = 104 ∧ ∀ k, k < n → S k ≠ b) (x : TTx sC sM F c1 r1 n S) (y : TTx sC sM F c2 r2 (n + 1) (updN S n b)) (z : TTx sC sM F c3 r3 (n + 1) (updN S n b)) : TTx sC sM F c r n S := by
  obtain ⟨h, x⟩ := x
  obtain ⟨h', y⟩ := y
  obtain ⟨h'', z⟩ := z
  exact ⟨h + h' + h'' + 1, hc, hr, hn, Or.inr (Or.inr (Or.inr (Or.inr (Or.inr (Or.inr ⟨k1, k2, c1, r1, c2, r2, c3, r3, b, h1, k5, h2, k6, h3, k7, h4, k8, h5, k9, h6, k10, hb, x.up (by omega), y.up (by omega), z.up (by omega)⟩)))))⟩
/-- a row: size, formulas, class's terms, reference's terms, under how many made, goal, around, the class's hypotheses -/
abbrev RW : Type := Nat × (Nat → Nat) × (Nat → Nat) × (Nat → Nat) × (Nat → Nat) × Nat × Nat × (Nat → Nat)
abbrev zz (R : RW) : Nat := R.1
abbrev fmR (R : RW) : Nat → Nat := R.2.1
abbrev tcR (R : RW) : Nat → Nat := R.2.2.1
abbrev trR (R : RW) : Nat → Nat := R.2.2.2.1
abbrev mdR (R : RW) : Nat → Nat := R.2.2.2.2.1
abbrev gR (R : RW) : Nat := R.2.2.2.2.2.1
abbrev aR (R : RW) : Nat := R.2.2.2.2.2.2.1
abbrev sR (R : RW) : Nat → Nat := R.2.2.2.2.2.2.2
def RR (sC sM : StT) (F NC NR d : Nat) (R : RW) : Prop := RC sC d (zz R) (fmR R) (tcR R) (gR R) ∧ RM sM d (zz R) (fmR R) (trR R) (mdR R) (gR R) (aR R) ∧ gR R < F ∧ aR R ≤ 20 + d ∧ (∀ i, i < zz R → fmR R i < F ∧ mdR R i ≤ aR R ∧ tcR R i < NC ∧ trR R i < NR ∧ TTx sC sM F (tcR R i) (trR R i) (mdR R i) (sR R)) ∧ ∀ k, k < aR R → sR R k < NC ∧ sC.2.1 16 (sR R k) = 104 ∧ ∀ i, i < zz R → mdR R i ≤ k → NBx sC (tcR R i) (sR R k)
/-- b is none of the hypotheses of a row, and was made behind its terms -/
def FRE (R : RW) (b : Nat) : Prop := (∀ k, k < aR R → sR R k ≠ b) ∧ ∀ i, i < zz R → tcR R i < b
/-- what the search leaves as it is below level e and below the terms made so far -/
def KGC (e NC : Nat) (s s' : StT) : Prop := (∀ j r, (j = 21 ∨ j = 22) → r < 60 * e → s'.2.1 j r = s.2.1 j r) ∧ (∀ j r, (j = 23 ∨ j = 24) → r < e → s'.2.1 j r = s.2.1 j r) ∧ ∀ j r, 15 < j → j < 21 → r < NC → s'.2.1 j r = s.2.1 j r
def KGM (e NR : Nat) (s s' : StT) : Prop := (∀ j r, (18 < j ∧ j < 22) → r < 60 * e → s'.2.1 j r = s.2.1 j r) ∧ (∀ j r, (21 < j ∧ j < 25) → r < e → s'.2.1 j r = s.2.1 j r) ∧ ∀ j r, 13 < j → j < 19 → r < NR → s'.2.1 j r = s.2.1 j r
theorem TTx.kg {sC sM sC' sM' : StT} {F F' c r n e NC NR : Nat} {S S' : Nat → Nat} (h : TTx sC sM F c r n S) (hF : F ≤ F') (hS : ∀ k, k < n → S' k = S k) (gC : KGC e NC sC sC') (gM : KGM e NR sM sM') (hc : c < NC) (hr : r < NR) : TTx sC' sM' F' c r n S' := by
  obtain ⟨h, a⟩ := h
  exact ⟨h, a.mv hF (Nat.le_refl _) hS (fun j i x y => gC.2.2 j i (by omega) (by omega) (by omega)) (fun i x _ => gC.2.2 17 i (by decide) (by decide) (by omega)) (fun j i x y z => gM.2.2 j i x y (by omega))⟩
theorem RR.gr {sC sM sC' sM' : StT} {F F' NC NC' NR NR' d e : Nat} {R : RW} (h : RR sC sM F NC NR d R) (hd : d < e) (gC : KGC e NC sC sC') (gM : KGM e NR sM sM') (hF : F ≤ F') (h1 : NC ≤ NC') (h2 : NR ≤ NR') : RR sC' sM' F' NC' NR' d R := by
  obtain ⟨a1, a2, a3, a4, a5, a6⟩ := h
  have z1 := a1.2.1
  refine ⟨⟨by rw [gC.2.1 23 d (by decide) hd]; exact a1.1, z1, by rw [gC.2.1 24 d (by decide) hd]; exact a1.2.2.1, fun i hi => ?_⟩, ⟨by rw [gM.2.1 22 d (by decide) hd]; exact a2.1, z1, by rw [gM.2.1 23 d (by decide) hd]; exact a2.2.2.1, by rw [gM.2.1 24 d (by decide) hd]; exact a2.2.2.2.1, fun i hi => ?_⟩, by omega, a4, fun i hi => ?_, fun k hk => ?_⟩
  · rw [gC.1 21 _ (by decide) (by omega), gC.1 22 _ (by decide) (by omega)]; exact a1.2.2.2 i hi
  · rw [gM.1 19 _ (by decide) (by omega), gM.1 20 _ (by decide) (by omega), gM.1 21 _ (by decide) (by omega)]; exact a2.2.2.2.2 i hi
  · obtain ⟨b1, b2, b3, b4, b5⟩ := a5 i hi
    exact ⟨by omega, b2, by omega, by omega, b5.kg hF (fun _ _ => rfl) gC gM b3 b4⟩
  · have := a6 k hk
    exact ⟨by omega, by rw [gC.2.2 16 _ (by decide) (by decide) this.1]; exact this.2.1, fun i hi hm => by
      have b3 := (a5 i hi).2.2.1
      exact (this.2.2 i hi hm).mv (gC.2.2 16 _ (by decide) (by decide) b3) (gC.2.2 20 _ (by decide) (by decide) b3) (fun _ => gC.2.2 17 _ (by decide) (by decide) b3)⟩
theorem KGC.rf (e NC : Nat) (s : StT) : KGC e NC s s := ⟨fun _ _ _ _ => rfl, fun _ _ _ _ => rfl, fun _ _ _ _ _ => rfl⟩
theorem KGM.rf (e NR : Nat) (s : StT) : KGM e NR s s := ⟨fun _ _ _ _ => rfl, fun _ _ _ _ => rfl, fun _ _ _ _ _ => rfl⟩
theorem KGC.tr {e N N' : Nat} {a b c : StT} (x : KGC e N a b) (y : KGC e N' b c) (h : N ≤ N') : KGC e N a c := ⟨fun j r p q => (y.1 j r p q).trans (x.1 j r p q), fun j r p q => (y.2.1 j r p q).trans (x.2.1 j r p q), fun j r p q s => (y.2.2 j r p q (by omega)).trans (x.2.2 j r p q s)⟩
theorem KGM.tr {e N N' : Nat} {a b c : StT} (x : KGM e N a b) (y : KGM e N' b c) (h : N ≤ N') : KGM e N a c := ⟨fun j r p q => (y.1 j r p q).trans (x.1 j r p q), fun j r p q => (y.2.1 j r p q).trans (x.2.1 j r p q), fun j r p q s => (y.2.2 j r p q (by omega)).trans (x.2.2 j r p q s)⟩
theorem GC.kg {N : Nat} {s s' : StT} (h : GC N s s') (e : Nat) : KGC e N s s' := ⟨fun j r p _ => by rw [h.2.1 j (by omega)], fun j r p _ => by rw [h.2.1 j (by omega)], h.2.2.1⟩
theorem GM.kg {N : Nat} {s s' : StT} (h : GM N s s') (e : Nat) : KGM e N s s' := ⟨fun j r p _ => by rw [h.2.1 j (by omega)], fun j r p _ => by rw [h.2.1 j (by omega)], h.2.2.1⟩
theorem LWC.kg {e : Nat} {s s' : StT} (h : LWC e s s') (N : Nat) : KGC e N s s' := ⟨h.2.2.1, h.2.2.2.1, fun j r p q _ => by rw [h.2.1 j (by omega)]⟩
theorem LWM.kg {e : Nat} {s s' : StT} (h : LWM e s s') (N : Nat) : KGM e N s s' := ⟨h.2.2.1, h.2.2.2.1, fun j r p q _ => by rw [h.2.1 j (by omega)]⟩
theorem KGC.lo {e e' N : Nat} {s s' : StT} (h : KGC e' N s s') (he : e ≤ e') : KGC e N s s' := ⟨fun j r p q => h.1 j r p (by omega), fun j r p q => h.2.1 j r p (by omega), h.2.2⟩
theorem KGM.lo {e e' N : Nat} {s s' : StT} (h : KGM e' N s s') (he : e ≤ e') : KGM e N s s' := ⟨fun j r p q => h.1 j r p (by omega), fun j r p q => h.2.1 j r p (by omega), h.2.2⟩
/-- one array or field that is neither row nor term -/
theorem KGC.uA {e N : Nat} {s : StT} {k : Nat} {i x : Int32} (hk : k < 16 ∨ 24 < k) : KGC e N s (uA s k i x) := ⟨fun j r p _ => by simp only [uA_21]; rw [if_neg (by omega)], fun j r p _ => by simp only [uA_21]; rw [if_neg (by omega)], fun j r p q _ => by simp only [uA_21]; rw [if_neg (by omega)]⟩
theorem KGM.uA {e N : Nat} {s : StT} {k : Nat} {i x : Int32} (hk : k < 14 ∨ 24 < k) : KGM e N s (uA s k i x) := ⟨fun j r p _ => by simp only [uA_21]; rw [if_neg (by omega)], fun j r p _ => by simp only [uA_21]; rw [if_neg (by omega)], fun j r p q _ => by simp only [uA_21]; rw [if_neg (by omega)]⟩
theorem KGC.uF {e N : Nat} {s : StT} {k : Nat} {x : Int32} : KGC e N s (uF s k x) := ⟨fun _ _ _ _ => rfl, fun _ _ _ _ => rfl, fun _ _ _ _ _ => rfl⟩
theorem KGM.uF {e N : Nat} {s : StT} {k : Nat} {x : Int32} : KGM e N s (uF s k x) := ⟨fun _ _ _ _ => rfl, fun _ _ _ _ => rfl, fun _ _ _ _ _ => rfl⟩
theorem FrC.kg {s s' : StT} (h : FrC s s') (e N : Nat) : KGC e N s s' := ⟨fun j r p _ => by rw [h.2.1 j (by omega) (by omega) (by omega) (by omega) (by omega)], fun j r p _ => by rw [h.2.1 j (by omega) (by omega) (by omega) (by omega) (by omega)], fun j r p q _ => by rw [h.2.1 j (by omega) (by omega) (by omega) (by omega) (by omega)]⟩
theorem FrM.kg {s s' : StT} (h : FrM s s') (e N : Nat) : KGM e N s s' := ⟨fun j r p _ => by rw [h.2.1 j (by omega) (by omega) (by omega)], fun j r p _ => by rw [h.2.1 j (by omega) (by omega) (by omega)], fun j r p q _ => by rw [h.2.1 j (by omega) (by omega) (by omega)]⟩
/-- the term at a place of a row, as the reference takes it -/
theorem termOfM {n : Nat} {sC sM : StT} {F NC NR d i : Nat} {R : RW} (h : RR sC sM F NC NR d R) (hd : d < 201) (hi : i < zz R) (h18 : sM.1 18 = nI NR) (hNR : NR < 60000) : ∃ r sM' NR', f_X12_termOf n sM (nI d) (nI i) = some (nI r, sM') ∧ NR ≤ NR' ∧ NR' ≤ NR + 1 ∧ r < NR' ∧ sM'.1 18 = nI NR' ∧ GM NR sM sM' ∧ TTx sC sM' F (tcR R i) r (aR R) (sR R) := by
  obtain ⟨a1, a2, a3, a4, a5, a6⟩ := h
  obtain ⟨b1, b2, b3, b4, b5⟩ := a5 i hi
  have hz := a2.2.1
  have hr := a2.2.2.2.2 i hi
  unfold f_X12_termOf
  rw [n60b, inB_nI (show 60 * d + i < 12060 by omega) (by omega), if_pos rfl, if_pos rfl, inB_nI hd (by omega), if_pos rfl, nI_cl (by omega), nI_cl (by omega), hr.2.2, hr.2.1, a2.2.2.2.1]
  by_cases c : mdR R i = aR R
  · rw [if_pos (by rw [c])]
    refine ⟨trR R i, sM, NR, rfl, Nat.le_refl _, by omega, b4, h18, GM.rf _ _, ?_⟩
    rw [← c]; exact b5
  · rw [if_neg (fun x => c (nI_inj (by omega) (by omega) x)), if_pos rfl, termM h18 hNR, Option.bind_some]
    have tr := tM_rows (s := sM) hNR 77 (nI (mdR R i)) (nI (trR R i)) (-1) (-1)
    have gm := tM_fr (s := sM) hNR 77 (nI (mdR R i)) (nI (trR R i)) (-1) (-1)
    refine ⟨NR, _, NR + 1, rfl, by omega, Nat.le_refl _, by omega, rfl, gm, TTx.moved hNR (by omega) b2 b4 tr.1 tr.2.1 tr.2.2.1 (fun k h1 h2 => (a6 k h2).2.2 i hi h1) (b5.gr (Nat.le_refl _) (fun _ _ => rfl) (GC.rf NC sC) gm b3 b4)⟩
