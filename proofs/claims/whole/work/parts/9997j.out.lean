/-! ===== how a level's turn ends, on both sides ===== -/
def XC (s s' : StT) : Prop := (∀ j, j ≠ 6 → j ≠ 16 → j ≠ 17 → j ≠ 18 → j ≠ 24 → s'.1 j = s.1 j) ∧ (∀ j, (j < 2 ∨ (6 < j ∧ j < 16) ∨ 34 < j) → s'.2.1 j = s.2.1 j) ∧ s'.2.2 = s.2.2
def XM (s s' : StT) : Prop := (∀ j, j ≠ 0 → j ≠ 18 → j ≠ 22 → j ≠ 24 → j ≠ 25 → j ≠ 26 → j ≠ 30 → s'.1 j = s.1 j) ∧ (∀ j, ((2 < j ∧ j < 14) ∨ 32 < j) → s'.2.1 j = s.2.1 j) ∧ s'.2.2 = s.2.2
theorem XC.rf (s : StT) : XC s s := ⟨fun _ _ _ _ _ _ => rfl, fun _ _ => rfl, rfl⟩
theorem XM.rf (s : StT) : XM s s := ⟨fun _ _ _ _ _ _ _ _ => rfl, fun _ _ => rfl, rfl⟩
theorem XC.tr {a b c : StT} (x : XC a b) (y : XC b c) : XC a c := ⟨fun j p q r s t => (y.1 j p q r s t).trans (x.1 j p q r s t), fun j p => (y.2.1 j p).trans (x.2.1 j p), y.2.2.trans x.2.2⟩
theorem XM.tr {a b c : StT} (x : XM a b) (y : XM b c) : XM a c := ⟨fun j p q r s t u v => (y.1 j p q r s t u v).trans (x.1 j p q r s t u v), fun j p => (y.2.1 j p).trans (x.2.1 j p), y.2.2.trans x.2.2⟩
theorem GC.x {N : Nat} {s s' : StT} (h : GC N s s') : XC s s' := ⟨fun j _ p _ _ _ => h.1 j p, fun j p => h.2.1 j (by omega), h.2.2.2⟩
theorem GM.x {N : Nat} {s s' : StT} (h : GM N s s') : XM s s' := ⟨fun j _ p _ _ _ _ _ => h.1 j p, fun j p => h.2.1 j (by omega), h.2.2.2⟩
theorem LWC.x {e : Nat} {s s' : StT} (h : LWC e s s') : XC s s' := ⟨fun j _ _ p _ _ => h.1 j p, fun j p => h.2.1 j (by omega), h.2.2.2.2⟩
theorem LWM.x {e : Nat} {s s' : StT} (h : LWM e s s') : XM s s' := ⟨fun j _ _ p q _ _ _ => h.1 j p q, fun j p => h.2.1 j (by omega), h.2.2.2.2⟩
theorem FrC.x {s s' : StT} (h : FrC s s') : XC s s' := ⟨fun j p _ _ _ _ => h.1 j p, fun j p => h.2.1 j (by omega) (by omega) (by omega) (by omega) (by omega), h.2.2⟩
theorem FrM.x {s s' : StT} (h : FrM s s') : XM s s' := ⟨fun j p _ _ _ _ _ _ => h.1 j p, fun j p => h.2.1 j (by omega) (by omega) (by omega), h.2.2⟩
theorem XC.a {s : StT} {k : Nat} {i x : Int32} (h : 15 < k ∧ k < 35) : XC s (uA s k i x) := ⟨fun _ _ _ _ _ _ => rfl, fun j p => by simp only [uA_21]; rw [if_neg (by omega)], rfl⟩
theorem XM.a {s : StT} {k : Nat} {i x : Int32} (h : 13 < k ∧ k < 33) : XM s (uA s k i x) := ⟨fun _ _ _ _ _ _ _ _ => rfl, fun j p => by simp only [uA_21]; rw [if_neg (by omega)], rfl⟩
theorem XC.f24 {s : StT} {x : Int32} : XC s (uF s 24 x) := ⟨fun j _ _ _ _ p => by simp only [uF_1]; rw [if_neg p], fun _ _ => rfl, rfl⟩
theorem XM.f {s : StT} {k : Nat} {x : Int32} (h : k = 24 ∨ k = 25 ∨ k = 26) : XM s (uF s k x) := ⟨fun j _ _ _ p q r _ => by simp only [uF_1]; rw [if_neg (by omega)], fun _ _ => rfl, rfl⟩
/-- the numbers of both sides -/
def SB (sC sM : StT) (D : HD) (NC NR nC nM mo : Nat) : Prop := HS D sC sM ∧ sC.1 16 = nI NC ∧ sM.1 18 = nI NR ∧ sC.1 18 = nI nC ∧ sM.1 30 = nI nM ∧ sC.1 17 = nI mo ∧ sM.1 22 = nI mo ∧ mo ≤ 60
/-- whether a level has no world of its own yet -/
def em (A : LD) : Nat := if (lsL A).isEmpty = true then 1 else 0
def OUT (n : Nat) (D : HD) (Lv : Nat → LD) (d NC NR nC nM : Nat) (sC sM : StT) (rc rm : Option (Int32 × StT)) : Prop :=
  ∃ (D' : HD) (NC' NR' nC' nM' mo' : Nat) (sC' sM' : StT), (XC sC sC' ∧ KGC 0 NC sC sC') ∧ XM sM sM' ∧ Gd D D' ∧ HS D' sC' sM' ∧
  ((rc = some (-7, sC') ∧ rm = some (3, sM') ∧ sM'.1 24 = -7 ∧ sC'.1 17 = nI mo' ∧ sM'.1 22 = nI mo') ∨
  (SB sC' sM' D' NC' NR' nC' nM' mo' ∧ NC ≤ NC' ∧ NR ≤ NR' ∧ nC ≤ nC' ∧ nM ≤ nM' ∧ LO sC' sM' D'.1 NC' NR' d Lv ∧
   ((rc = some (1, sC') ∧ rm = some (1, sM') ∧ NC' ≤ NC + 1 ∧ NR' ≤ NR + 2 ∧ nC' = nC ∧ nM' ≤ nM + em (Lv d) ∧ ∃ c r, c < NC' ∧ r < NR' ∧ sC'.1 24 = nI c ∧ sM'.1 25 = nI r ∧ TTx sC' sM' D'.1.1 c r (aR (Lv d).1) (sR (Lv d).1))
   ∨ (rc = some (0, sC') ∧ rm = some (0, sM') ∧ NC' = NC ∧ NR' = NR ∧ nC' ≤ nC + 1 ∧ nM' ≤ nM + em (Lv d) ∧ ∃ p, FW sC' sM' (bCL (Lv d)) (bML (Lv d)) nC' nM' (mkL D'.1 (Lv d)) p ∧ sC'.1 24 = nI p.2.1 ∧ sM'.1 26 = nI p.2.2.2.2.1)
   ∨ (rc = some (2, sC') ∧ rm = f_X12_begin n sM' ∧ NC' ≤ NC + 8 ∧ NR' ≤ NR + 11 ∧ nC' = nC ∧ ∃ A B : LD, A.1 = (Lv d).1 ∧ nM' + em A ≤ nM + em (Lv d) ∧ LO sC' sM' D'.1 NC' NR' (d + 1) (upL Lv d A B) ∧ RR sC' sM' D'.1.1 NC' NR' (d + 1) B.1 ∧ B.2.2.1 = (nC', nM', nC', nM') ∧ lsL B = []))))
/-- what both sides know when a level's turn comes -/
def PRE (D : HD) (Lv : Nat → LD) (d NC NR nC nM mo : Nat) (sC sM : StT) : Prop := SB sC sM D NC NR nC nM mo ∧ LO sC sM D.1 NC NR d Lv ∧ RR sC sM D.1.1 NC NR d (Lv d).1 ∧ PL sC sM d (bCL (Lv d)) (bML (Lv d)) (nCL (Lv d)) (nML (Lv d)) (mkL D.1 (Lv d)) (lsL (Lv d)) ∧ nCL (Lv d) ≤ nC ∧ nML (Lv d) ≤ nM ∧ d < 200 ∧ NC + 20 < 30027 ∧ NR + 20 < 60000 ∧ nC < 2000 ∧ nM < 2100
theorem PRE.lt {D : HD} {Lv : Nat → LD} {d NC NR nC nM mo : Nat} {sC sM : StT} (h : PRE D Lv d NC NR nC nM mo sC sM) : bCL (Lv d) ≤ nC ∧ bML (Lv d) ≤ nM := by
  obtain ⟨_, _, _, p, h1, h2, _⟩ := h
  have := p.1; have := p.2.2.2.1
  omega
/-- proved, with terms that were made for it -/
theorem out_proved {n : Nat} {D : HD} {Lv : Nat → LD} {d NC NR nC nM mo : Nat} {sC sM sC' sM' : StT} {NC' NR' c r : Nat} (h : PRE D Lv d NC NR nC nM mo sC sM) (gC : GC NC sC sC') (gM : GM NR sM sM') (h16 : sC'.1 16 = nI NC') (h18 : sM'.1 18 = nI NR') (a1 : NC ≤ NC') (a2 : NC' ≤ NC + 1) (a3 : NR ≤ NR') (a4 : NR' ≤ NR + 2) (hc : c < NC') (hr : r < NR') (ht : TTx sC' sM' D.1.1 c r (aR (Lv d).1) (sR (Lv d).1)) : OUT n D Lv d NC NR nC nM sC sM (some (1, uF sC' 24 (nI c))) (some (1, uF sM' 25 (nI r))) := by
  obtain ⟨⟨b1, b2, b3, b4, b5, b6, b7, b8⟩, hLO, hRR, hPL, _⟩ := h
  have hw := b1.2.2.1
  have fC : FLC d NC (bCL (Lv d)) sC (uF sC' 24 (nI c)) := ⟨gC.kg d, fun j r x y _ => by show sC'.2.1 j r = _; rw [gC.2.1 j (by omega)], fun j r x y _ => by show sC'.2.1 j r = _; rw [gC.2.1 j (by omega)]⟩
  have fM : FLM d NR (bML (Lv d)) sM (uF sM' 25 (nI r)) := ⟨gM.kg d, fun j r x y _ => by show sM'.2.1 j r = _; rw [gM.2.1 j (by omega)], fun j r x y _ => by show sM'.2.1 j r = _; rw [gM.2.1 j (by omega)]⟩
  have hHS : HS D (uF sC' 24 (nI c)) (uF sM' 25 (nI r)) := b1.mv (gC.1 6 (by decide)) (gC.1 7 (by decide)) (fun j x y => gC.2.1 j (by omega)) (by show sC'.2.2.2 0 = _; rw [gC.2.2.2]) (gM.1 0 (by decide)) (gM.1 2 (by decide)) (fun j x => gM.2.1 j (by omega))
  refine ⟨D, NC', NR', nC, nM, mo, uF sC' 24 (nI c), uF sM' 25 (nI r), ⟨gC.x.tr XC.f24, gC.kg 0⟩, gM.x.tr (XM.f (by decide)), Gd.rf _, hHS, Or.inr ⟨⟨hHS, h16, h18, by show sC'.1 18 = _; rw [gC.1 18 (by decide)]; exact b4, by show sM'.1 30 = _; rw [gM.1 30 (by decide)]; exact b5, by show sC'.1 17 = _; rw [gC.1 17 (by decide)]; exact b6, by show sM'.1 22 = _; rw [gM.1 22 (by decide)]; exact b7, b8⟩, a1, a3, Nat.le_refl _, Nat.le_refl _, hLO.gr hw fC fM (Nat.le_refl _) (fun _ _ => ⟨rfl, rfl, rfl⟩) a1 a3, Or.inl ⟨rfl, rfl, a2, a4, rfl, Nat.le_add_right _ _, c, r, hc, hr, rfl, rfl, ?_⟩⟩⟩
  obtain ⟨hh, ht⟩ := ht
  exact ⟨hh, ht.mv (Nat.le_refl _) (Nat.le_refl _) (fun _ _ => rfl) (fun _ _ _ _ => rfl) (fun _ _ _ => rfl) (fun _ _ _ _ _ => rfl)⟩
