/-! ===== what is done in one turn, step by step ===== -/
def PRG (D : HD) (d NC NR nC nM : Nat) (sC sM : StT) (D' : HD) (NC' NR' : Nat) (sC' sM' : StT) : Prop :=
  (XC sC sC' ∧ XM sM sM') ∧ (FLC d NC nC sC sC' ∧ FLM d NR nM sM sM') ∧ (KGC (d + 1) NC sC sC' ∧ KGM (d + 1) NR sM sM') ∧ ((sC'.2.1 29 d = sC.2.1 29 d ∧ sC'.2.1 30 d = sC.2.1 30 d) ∧ sM'.2.1 28 d = sM.2.1 28 d) ∧ Gd D D' ∧ HS D' sC' sM' ∧ (sC'.1 16 = nI NC' ∧ sM'.1 18 = nI NR') ∧ (NC ≤ NC' ∧ NR ≤ NR') ∧ (sC'.1 18 = sC.1 18 ∧ sM'.1 30 = sM.1 30)
theorem PRG.start {D : HD} {d NC NR nC nM mo : Nat} {sC sM : StT} (h : SB sC sM D NC NR nC nM mo) : PRG D d NC NR nC nM sC sM D NC NR sC sM := ⟨⟨XC.rf _, XM.rf _⟩, ⟨FLC.rf _ _ _ _, FLM.rf _ _ _ _⟩, ⟨KGC.rf _ _ _, KGM.rf _ _ _⟩, ⟨⟨rfl, rfl⟩, rfl⟩, Gd.rf _, h.1, ⟨h.2.1, h.2.2.1⟩, ⟨Nat.le_refl _, Nat.le_refl _⟩, rfl, rfl⟩
theorem PRG.c1 {D D' : HD} {d NC NR nC nM NC' NR' N2 : Nat} {sC sM sC' sM' s2 : StT} (p : PRG D d NC NR nC nM sC sM D' NC' NR' sC' sM') (g : GC NC' sC' s2) (h : s2.1 16 = nI N2) (hN : NC' ≤ N2) : PRG D d NC NR nC nM sC sM D' N2 NR' s2 sM' := by
  obtain ⟨⟨a1, a2⟩, ⟨a3, a4⟩, ⟨a5, a6⟩, ⟨⟨a7, a8⟩, a9⟩, a10, a11, ⟨a12, a13⟩, ⟨a14, a15⟩, a16, a17⟩ := p
  refine ⟨⟨a1.tr g.x, a2⟩, ⟨a3.tr g.fl a14, a4⟩, ⟨a5.tr (g.kg _) a14, a6⟩, ⟨⟨by rw [g.2.1 29 (by decide)]; exact a7, by rw [g.2.1 30 (by decide)]; exact a8⟩, a9⟩, a10, a11.mv (g.1 6 (by decide)) (g.1 7 (by decide)) (fun j x y => g.2.1 j (by omega)) (by rw [g.2.2.2]) rfl rfl (fun _ _ => rfl), ⟨h, a13⟩, ⟨by omega, a15⟩, by rw [g.1 18 (by decide)]; exact a16, a17⟩
theorem PRG.m1 {D D' : HD} {d NC NR nC nM NC' NR' N2 : Nat} {sC sM sC' sM' s2 : StT} (p : PRG D d NC NR nC nM sC sM D' NC' NR' sC' sM') (g : GM NR' sM' s2) (h : s2.1 18 = nI N2) (hN : NR' ≤ N2) : PRG D d NC NR nC nM sC sM D' NC' N2 sC' s2 := by
  obtain ⟨⟨a1, a2⟩, ⟨a3, a4⟩, ⟨a5, a6⟩, ⟨⟨a7, a8⟩, a9⟩, a10, a11, ⟨a12, a13⟩, ⟨a14, a15⟩, a16, a17⟩ := p
  refine ⟨⟨a1, a2.tr g.x⟩, ⟨a3, a4.tr g.fl a15⟩, ⟨a5, a6.tr (g.kg _) a15⟩, ⟨⟨a7, a8⟩, by rw [g.2.1 28 (by decide)]; exact a9⟩, a10, a11.mv rfl rfl (fun _ _ _ => rfl) rfl (g.1 0 (by decide)) (g.1 2 (by decide)) (fun j x => g.2.1 j (by omega)), ⟨a12, h⟩, ⟨a14, by omega⟩, a16, by rw [g.1 30 (by decide)]; exact a17⟩
theorem PRG.cc {D D' : HD} {d NC NR nC nM NC' NR' : Nat} {sC sM sC' sM' : StT} (p : PRG D d NC NR nC nM sC sM D' NC' NR' sC' sM') (k : Nat) (hk : 30 < k ∧ k < 35) (hd : d < 2 ^ 31) (x : Int32) : PRG D d NC NR nC nM sC sM D' NC' NR' (uA sC' k (nI d) x) sM' := by
  obtain ⟨⟨a1, a2⟩, ⟨a3, a4⟩, ⟨a5, a6⟩, ⟨⟨a7, a8⟩, a9⟩, a10, a11, a12, a13, a16, a17⟩ := p
  have f := FLC.cell (d := d) (N := NC) (b := nC) (k := k) (s := sC') (x := x) (by omega) hd
  refine ⟨⟨a1.tr (XC.a (by omega)), a2⟩, ⟨a3.tr f.1 (Nat.le_refl _), a4⟩, ⟨a5.tr f.2 (Nat.le_refl _), a6⟩, ⟨⟨?_, ?_⟩, a9⟩, a10, a11.mv rfl rfl (fun j p q => by simp only [uA_21]; rw [if_neg (by omega)]) rfl rfl rfl (fun _ _ => rfl), a12, a13, a16, a17⟩
  · simp only [uA_21]; rw [if_neg (by omega)]; exact a7
  · simp only [uA_21]; rw [if_neg (by omega)]; exact a8
theorem PRG.mc {D D' : HD} {d NC NR nC nM NC' NR' : Nat} {sC sM sC' sM' : StT} (p : PRG D d NC NR nC nM sC sM D' NC' NR' sC' sM') (k : Nat) (hk : 24 < k ∧ k < 28) (hd : d < 2 ^ 31) (x : Int32) : PRG D d NC NR nC nM sC sM D' NC' NR' sC' (uA sM' k (nI d) x) := by
  obtain ⟨⟨a1, a2⟩, ⟨a3, a4⟩, ⟨a5, a6⟩, ⟨⟨a7, a8⟩, a9⟩, a10, a11, a12, a13, a16, a17⟩ := p
  have f := FLM.cell (d := d) (N := NR) (b := nM) (k := k) (s := sM') (x := x) (by omega) hd
  refine ⟨⟨a1, a2.tr (XM.a (by omega))⟩, ⟨a3, a4.tr f.1 (Nat.le_refl _)⟩, ⟨a5, a6.tr f.2 (Nat.le_refl _)⟩, ⟨⟨a7, a8⟩, ?_⟩, a10, a11.mv rfl rfl (fun _ _ _ => rfl) rfl rfl rfl (fun j x => by simp only [uA_21]; rw [if_neg (by omega)]), a12, a13, a16, a17⟩
  simp only [uA_21]; rw [if_neg (by omega)]; exact a9
theorem PRG.lw {D D' : HD} {d NC NR nC nM NC' NR' : Nat} {sC sM sC' sM' s2 m2 : StT} (p : PRG D d NC NR nC nM sC sM D' NC' NR' sC' sM') (g : LWC (d + 1) sC' s2) (k : LWM (d + 1) sM' m2) : PRG D d NC NR nC nM sC sM D' NC' NR' s2 m2 := by
  obtain ⟨⟨a1, a2⟩, ⟨a3, a4⟩, ⟨a5, a6⟩, ⟨⟨a7, a8⟩, a9⟩, a10, a11, ⟨a12, a13⟩, a14, a16, a17⟩ := p
  exact ⟨⟨a1.tr g.x, a2.tr k.x⟩, ⟨a3.tr g.fl (Nat.le_refl NC), a4.tr k.fl (Nat.le_refl NR)⟩, ⟨a5.tr (g.kg NC) (Nat.le_refl _), a6.tr (k.kg NR) (Nat.le_refl _)⟩, ⟨⟨by rw [g.2.1 29 (by decide)]; exact a7, by rw [g.2.1 30 (by decide)]; exact a8⟩, by rw [k.2.1 28 (by decide)]; exact a9⟩, a10, a11.mv (g.1 6 (by decide)) (g.1 7 (by decide)) (fun j x y => g.2.1 j (by omega)) (by rw [g.2.2.2.2]) (k.1 0 (by decide) (by decide)) (k.1 2 (by decide) (by decide)) (fun j x => k.2.1 j (by omega)), ⟨by rw [g.1 16 (by decide)]; exact a12, by rw [k.1 18 (by decide) (by decide)]; exact a13⟩, a14, by rw [g.1 18 (by decide)]; exact a16, by rw [k.1 30 (by decide) (by decide)]; exact a17⟩
/-- one more formula on both sides, or none -/
theorem PRG.joinB {n : Nat} (hn : 100000 ≤ n) {D D' : HD} {d NC NR nC nM NC' NR' : Nat} {sC sM sC' sM' : StT} (p : PRG D d NC NR nC nM sC sM D' NC' NR' sC' sM') {a b : Nat} (ha : a < D'.1.1) (hb : b < D'.1.1) :
    ∃ (o : Option Nat) (D2 : HD) (s2 m2 : StT), f_X1_joined_F0 n sC' 5 (nI a) (nI b) = some (oI o, s2) ∧ f_X12_formulaOf n sM' 5 (nI a) (nI b) = some (oI o, m2) ∧ PRG D d NC NR nC nM sC sM D2 NC' NR' s2 m2 ∧ Gd D' D2 ∧ (∀ f, o = some f → f < D2.1.1) ∧ FrC sC' s2 ∧ FrM sM' m2 := by
  obtain ⟨⟨a1, a2⟩, ⟨a3, a4⟩, ⟨a5, a6⟩, ⟨⟨a7, a8⟩, a9⟩, a10, a11, ⟨a12, a13⟩, a14, a16, a17⟩ := p
  have hw := a11.2.2.1
  have hl := hw.2.1
  obtain ⟨s2, ec, ec1, ec2⟩ := joinedC hn a11.1 hw (k := 5) (a := a) (b := b) (by omega) (by omega) (by omega)
  obtain ⟨m2, em, em1, em2⟩ := joinedM hn a11.2.1 hw (k := 5) (a := a) (b := b) (by omega) (by omega) (by omega)
  have hg := a11.join (by decide) ha hb ec1 em1 ec2 em2
  refine ⟨(jn D'.1 5 a b).1, _, s2, m2, ec, em, ⟨⟨a1.tr ec2.x, a2.tr em2.x⟩, ⟨a3.tr ec2.fl (Nat.le_refl NC), a4.tr em2.fl (Nat.le_refl NR)⟩, ⟨a5.tr (ec2.kg _ NC) (Nat.le_refl _), a6.tr (em2.kg _ NR) (Nat.le_refl _)⟩, ⟨⟨by rw [ec2.2.1 29 (by decide) (by decide) (by decide) (by decide) (by decide)]; exact a7, by rw [ec2.2.1 30 (by decide) (by decide) (by decide) (by decide) (by decide)]; exact a8⟩, by rw [em2.2.1 28 (by decide) (by decide) (by decide)]; exact a9⟩, a10.tr hg.2, hg.1, ⟨by rw [ec2.1 16 (by decide)]; exact a12, by rw [em2.1 18 (by decide)]; exact a13⟩, a14, by rw [ec2.1 18 (by decide)]; exact a16, by rw [em2.1 30 (by decide)]; exact a17⟩, hg.2, fun f hf => jn_lt hf, ec2, em2⟩
/-- the turn ends with a premise -/
theorem PRG.laid {n : Nat} {D D' : HD} {Lv : Nat → LD} {d NC NR nC nM mo NC' NR' mo' : Nat} {sC sM sC' sM' : StT} {q : Nat × Nat × Nat × Nat × Nat} {R' : RW} (h : PRE D Lv d NC NR nC nM mo sC sM) (p : PRG D d NC NR nC nM sC sM D' NC' NR' sC' sM') (h17 : sC'.1 17 = nI mo') (h22 : sM'.1 22 = nI mo') (hmo : mo' ≤ 60) (b1 : NC' ≤ NC + 8) (b2 : NR' ≤ NR + 11) (hl : LVL sC' sM' D'.1 NC' NR' d (reL (Lv d) q) R') (hr : RR sC' sM' D'.1.1 NC' NR' (d + 1) R') : OUT n D Lv d NC NR nC nM sC sM (some (2, sC')) (f_X12_begin n sM') := by
  have hS := h.1
  obtain ⟨⟨a1, a2⟩, ⟨a3, a4⟩, ⟨a5, a6⟩, ⟨⟨a7, a8⟩, a9⟩, a10, a11, ⟨a12, a13⟩, ⟨a14, a15⟩, a16, a17⟩ := p
  exact out_laid0 h a1 a2 a10 ⟨a11, a12, a13, by rw [a16]; exact hS.2.2.2.1, by rw [a17]; exact hS.2.2.2.2.1, h17, h22, hmo⟩ a14 b1 a15 b2 a3 a4 a5 a6 ⟨a7, a8⟩ a9 hl hr
/-- the turn ends for want of room -/
theorem PRG.full {n : Nat} {D D' : HD} {Lv : Nat → LD} {d NC NR nC nM NC' NR' mo' : Nat} {sC sM sC' sM' : StT} (p : PRG D d NC NR nC nM sC sM D' NC' NR' sC' sM') (h17 : sC'.1 17 = nI mo') (h22 : sM'.1 22 = nI mo') (h24 : sM'.1 24 = -7) : OUT n D Lv d NC NR nC nM sC sM (some (-7, sC')) (some (3, sM')) := ⟨D', NC', NR', nC, nM, mo', sC', sM', ⟨p.1.1, p.2.2.1.1.lo (Nat.zero_le _)⟩, p.1.2, p.2.2.2.2.1, p.2.2.2.2.2.1, Or.inl ⟨rfl, rfl, h24, h17, h22⟩⟩
theorem PRG.f24 {D D' : HD} {d NC NR nC nM NC' NR' : Nat} {sC sM sC' sM' : StT} (p : PRG D d NC NR nC nM sC sM D' NC' NR' sC' sM') (x : Int32) : PRG D d NC NR nC nM sC sM D' NC' NR' sC' (uF sM' 24 x) := by
  obtain ⟨⟨a1, a2⟩, ⟨a3, a4⟩, ⟨a5, a6⟩, a9, a10, a11, a12, a13, a16⟩ := p
  exact ⟨⟨a1, a2.tr (XM.f (by decide))⟩, ⟨a3, a4.1.tr KGM.uF (Nat.le_refl _), a4.2.1, a4.2.2⟩, ⟨a5, a6.tr KGM.uF (Nat.le_refl _)⟩, a9, a10, a11.mv rfl rfl (fun _ _ _ => rfl) rfl rfl rfl (fun _ _ => rfl), a12, a13, a16⟩
