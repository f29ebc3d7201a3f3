/-! ===== the levels of the search that wait ===== -/
/-- a level: its row; stage, pick, held terms, bound node; where its worlds began and how many there were; its children so far -/
abbrev LD : Type := RW × (Nat × Nat × Nat × Nat × Nat) × (Nat × Nat × Nat × Nat) × List WN
abbrev stL (A : LD) : Nat := A.2.1.1
abbrev piL (A : LD) : Nat := A.2.1.2.1
abbrev hcL (A : LD) : Nat := A.2.1.2.2.1
abbrev hrL (A : LD) : Nat := A.2.1.2.2.2.1
abbrev bdL (A : LD) : Nat := A.2.1.2.2.2.2
abbrev bCL (A : LD) : Nat := A.2.2.1.1
abbrev bML (A : LD) : Nat := A.2.2.1.2.1
abbrev nCL (A : LD) : Nat := A.2.2.1.2.2.1
abbrev nML (A : LD) : Nat := A.2.2.1.2.2.2
abbrev lsL (A : LD) : List WN := A.2.2.2
abbrev mkL (t : FT) (A : LD) : Int32 := msk t (fmR A.1) (zz A.1)
def LVL (sC sM : StT) (t : FT) (NC NR e : Nat) (A : LD) (R' : RW) : Prop :=
  (sC.2.1 31 e = nI (stL A) ∧ sM.2.1 25 e = nI (stL A + 1) ∧ stL A ≤ 8) ∧
  (∀ i, i < zz A.1 → t.2.1 (fmR A.1 i) = 2 → ∃ j, j < zz R' ∧ fmR R' j = fmR A.1 i) ∧
  (∀ k, k < aR A.1 → sR R' k = sR A.1 k) ∧
  ((stL A ∈ [0, 2, 3, 6, 7] ∧ aR R' = aR A.1) ∨ (stL A ∈ [1, 4, 5, 8] ∧ aR R' = aR A.1 + 1 ∧ sR R' (aR A.1) = bdL A ∧ sC.2.1 34 e = nI (bdL A) ∧ bdL A < NC ∧ sC.2.1 16 (bdL A) = 104 ∧ FRE A.1 (bdL A))) ∧
  ((stL A = 1 → t.2.1 (gR A.1) = 5) ∧ (stL A ∈ [2, 3] → t.2.1 (gR A.1) = 3) ∧ (stL A ∈ [6, 7] → t.2.1 (gR A.1) = 4)) ∧
  (stL A = 3 → sC.2.1 33 e = nI (hcL A) ∧ sM.2.1 27 e = nI (hrL A) ∧ hcL A < NC ∧ hrL A < NR ∧ TTx sC sM t.1 (hcL A) (hrL A) (aR A.1) (sR A.1)) ∧
  (stL A = 5 → sC.2.1 33 e = nI (hcL A) ∧ sM.2.1 27 e = nI (hrL A) ∧ hcL A < NC ∧ hrL A < NR ∧ TTx sC sM t.1 (hcL A) (hrL A) (aR A.1 + 1) (updN (sR A.1) (aR A.1) (bdL A))) ∧
  (stL A ∈ [4, 5, 8] → sC.2.1 32 e = nI (piL A) ∧ sM.2.1 26 e = nI (piL A) ∧ piL A < zz A.1) ∧
  (stL A ∈ [4, 5] → t.2.1 (fmR A.1 (piL A)) = 4) ∧
  (stL A = 8 → t.2.1 (fmR A.1 (piL A)) = 5 ∧ t.2.1 (t.2.2.1 (fmR A.1 (piL A))) = 5) ∧
  (stL A = 6 → lsL A = []) ∧ (stL A = 7 → lsL A ≠ [])
/-- all levels below d wait -/
def LO (sC sM : StT) (t : FT) (NC NR d : Nat) (Lv : Nat → LD) : Prop :=
  (∀ e, e < d → RR sC sM t.1 NC NR e (Lv e).1 ∧ LVL sC sM t NC NR e (Lv e) (Lv (e + 1)).1 ∧ PL sC sM e (bCL (Lv e)) (bML (Lv e)) (nCL (Lv e)) (nML (Lv e)) (mkL t (Lv e)) (lsL (Lv e))) ∧
  ∀ e e', e < e' → e' ≤ d → nCL (Lv e) ≤ bCL (Lv e') ∧ nML (Lv e) ≤ bML (Lv e')
/-- what is done at level d leaves the levels below as they are -/
def FLC (d NC bC : Nat) (s s' : StT) : Prop := KGC d NC s s' ∧ (∀ j r, 28 < j → j < 35 → r < d → s'.2.1 j r = s.2.1 j r) ∧ ∀ j r, 24 < j → j < 29 → r < bC → s'.2.1 j r = s.2.1 j r
def FLM (d NR bM : Nat) (s s' : StT) : Prop := KGM d NR s s' ∧ (∀ j r, 24 < j → j < 29 → r < d → s'.2.1 j r = s.2.1 j r) ∧ ∀ j r, 28 < j → j < 33 → r < bM → s'.2.1 j r = s.2.1 j r
theorem FLC.rf (d NC bC : Nat) (s : StT) : FLC d NC bC s s := ⟨KGC.rf _ _ _, fun _ _ _ _ _ => rfl, fun _ _ _ _ _ => rfl⟩
theorem FLM.rf (d NR bM : Nat) (s : StT) : FLM d NR bM s s := ⟨KGM.rf _ _ _, fun _ _ _ _ _ => rfl, fun _ _ _ _ _ => rfl⟩
theorem FLC.tr {d N N' b : Nat} {x y z : StT} (p : FLC d N b x y) (q : FLC d N' b y z) (h : N ≤ N') : FLC d N b x z := ⟨p.1.tr q.1 h, fun j r a c e => (q.2.1 j r a c e).trans (p.2.1 j r a c e), fun j r a c e => (q.2.2 j r a c e).trans (p.2.2 j r a c e)⟩
theorem FLM.tr {d N N' b : Nat} {x y z : StT} (p : FLM d N b x y) (q : FLM d N' b y z) (h : N ≤ N') : FLM d N b x z := ⟨p.1.tr q.1 h, fun j r a c e => (q.2.1 j r a c e).trans (p.2.1 j r a c e), fun j r a c e => (q.2.2 j r a c e).trans (p.2.2 j r a c e)⟩
theorem msk_gr {t t' : FT} {fm : Nat → Nat} : ∀ {z : Nat}, (∀ i, i < z → fm i < t.1) → (∀ f, f < t.1 → t'.2.1 f = t.2.1 f ∧ t'.2.2.1 f = t.2.2.1 f ∧ t'.2.2.2 f = t.2.2.2 f) → msk t' fm z = msk t fm z := by
  intro z
  induction z with
  | zero => intro _ _; rfl
  | succ z ih =>
    intro hb hg
    have a := hg _ (hb z (by omega))
    unfold msk
    rw [a.1, a.2.1, ih (fun i hi => hb i (by omega)) hg]
theorem LVL.gr {sC sM sC' sM' : StT} {t t' : FT} {vn NC NR NC' NR' d e bC bM : Nat} {A : LD} {R' : RW} (h : LVL sC sM t NC NR e A R') (hw : WFt t vn) (hr : RR sC sM t.1 NC NR e A.1) (hd : e < d) (fC : FLC d NC bC sC sC') (fM : FLM d NR bM sM sM') (g1 : t.1 ≤ t'.1) (g2 : ∀ f, f < t.1 → t'.2.1 f = t.2.1 f ∧ t'.2.2.1 f = t.2.2.1 f ∧ t'.2.2.2 f = t.2.2.2 f) (h1 : NC ≤ NC') (h2 : NR ≤ NR') : LVL sC' sM' t' NC' NR' e A R' := by
  obtain ⟨⟨a1, a2, a3⟩, a4, a5, a6, ⟨a7, a8, a9⟩, a10, a11, a12, a13, a14, a15⟩ := h
  have gg := (g2 _ hr.2.2.1).1
  have pk : ∀ i, i < zz A.1 → t'.2.1 (fmR A.1 i) = t.2.1 (fmR A.1 i) := fun i hi => (g2 _ (hr.2.2.2.2.1 i hi).1).1
  refine ⟨⟨by rw [fC.2.1 31 e (by decide) (by decide) hd]; exact a1, by rw [fM.2.1 25 e (by decide) (by decide) hd]; exact a2, a3⟩, fun i hi hk => a4 i hi (by rw [← pk i hi]; exact hk), a5, ?_, ⟨fun x => by rw [gg]; exact a7 x, fun x => by rw [gg]; exact a8 x, fun x => by rw [gg]; exact a9 x⟩, fun x => ?_, fun x => ?_, fun x => ?_, fun x => ?_, fun x => ?_, a15⟩
  · rcases a6 with b | ⟨b1, b2, b3, b4, b5, b6, b7⟩
    · exact Or.inl b
    · exact Or.inr ⟨b1, b2, b3, by rw [fC.2.1 34 e (by decide) (by decide) hd]; exact b4, by omega, by rw [fC.1.2.2 16 _ (by decide) (by decide) b5]; exact b6, b7⟩
  · obtain ⟨b1, b2, b3, b4, b5⟩ := a10 x
    exact ⟨by rw [fC.2.1 33 e (by decide) (by decide) hd]; exact b1, by rw [fM.2.1 27 e (by decide) (by decide) hd]; exact b2, by omega, by omega, b5.kg g1 (fun _ _ => rfl) fC.1 fM.1 b3 b4⟩
  · obtain ⟨b1, b2, b3, b4, b5⟩ := a11 x
    exact ⟨by rw [fC.2.1 33 e (by decide) (by decide) hd]; exact b1, by rw [fM.2.1 27 e (by decide) (by decide) hd]; exact b2, by omega, by omega, b5.kg g1 (fun _ _ => rfl) fC.1 fM.1 b3 b4⟩
  · obtain ⟨b1, b2, b3⟩ := a12 x
    exact ⟨by rw [fC.2.1 32 e (by decide) (by decide) hd]; exact b1, by rw [fM.2.1 26 e (by decide) (by decide) hd]; exact b2, b3⟩
  · have hp : piL A < zz A.1 := (a12 (by
      simp only [List.mem_cons, List.not_mem_nil, or_false] at x ⊢; omega)).2.2
    rw [pk _ hp]; exact a13 x
  · have hp : piL A < zz A.1 := (a12 (by
      simp only [List.mem_cons, List.not_mem_nil, or_false]; omega)).2.2
    have hf := (hr.2.2.2.2.1 _ hp).1
    have b := a14 x
    have q := g2 _ hf
    have hlo := hw.lo hf (by omega)
    rw [q.1, q.2.1, (g2 _ (show t.2.2.1 (fmR A.1 (piL A)) < t.1 by omega)).1]
    exact b
theorem LO.gr {sC sM sC' sM' : StT} {t t' : FT} {vn NC NR NC' NR' d : Nat} {Lv : Nat → LD} (h : LO sC sM t NC NR d Lv) (hw : WFt t vn) (fC : FLC d NC (bCL (Lv d)) sC sC') (fM : FLM d NR (bML (Lv d)) sM sM') (g1 : t.1 ≤ t'.1) (g2 : ∀ f, f < t.1 → t'.2.1 f = t.2.1 f ∧ t'.2.2.1 f = t.2.2.1 f ∧ t'.2.2.2 f = t.2.2.2 f) (h1 : NC ≤ NC') (h2 : NR ≤ NR') : LO sC' sM' t' NC' NR' d Lv := by
  refine ⟨fun e he => ?_, h.2⟩
  obtain ⟨a1, a2, a3⟩ := h.1 e he
  have hb := h.2 e d he (Nat.le_refl _)
  refine ⟨a1.gr he fC.1 fM.1 g1 h1 h2, a2.gr hw a1 he fC fM g1 g2 h1 h2, ?_⟩
  have em : mkL t' (Lv e) = mkL t (Lv e) := msk_gr (fun i hi => (a1.2.2.2.2.1 i hi).1) g2
  rw [em]
  exact a3.gr (fun j i x y z => fC.2.2 j i x y (by omega)) (fun j hj => fC.2.1 j e (by omega) (by omega) he) (fun j i x y z => fM.2.2 j i x y (by omega)) (fM.2.1 28 e (by decide) (by decide) he)
theorem LO.dn {sC sM : StT} {t : FT} {NC NR d : Nat} {Lv : Nat → LD} (h : LO sC sM t NC NR (d + 1) Lv) : LO sC sM t NC NR d Lv := ⟨fun e he => h.1 e (by omega), fun e e' h1 h2 => h.2 e e' h1 (by omega)⟩
/-- level d is set anew, and the row above it -/
def upL (Lv : Nat → LD) (d : Nat) (A B : LD) : Nat → LD := fun e => if e = d then A else if e = d + 1 then B else Lv e
theorem LO.lay {sC sM : StT} {t : FT} {NC NR d : Nat} {Lv : Nat → LD} {A B : LD} (h : LO sC sM t NC NR d Lv) (hA : A.1 = (Lv d).1) (hb : bCL A = bCL (Lv d) ∧ bML A = bML (Lv d)) (hr : RR sC sM t.1 NC NR d A.1) (hl : LVL sC sM t NC NR d A B.1) (hp : PL sC sM d (bCL A) (bML A) (nCL A) (nML A) (mkL t A) (lsL A)) (hB : nCL A ≤ bCL B ∧ nML A ≤ bML B) (hBd : bCL A ≤ bCL B ∧ bML A ≤ bML B) : LO sC sM t NC NR (d + 1) (upL Lv d A B) := by
  have ud : upL Lv d A B d = A := by unfold upL; rw [if_pos rfl]
  have u1 : upL Lv d A B (d + 1) = B := by unfold upL; rw [if_neg (by omega), if_pos rfl]
  have ue : ∀ e, e < d → upL Lv d A B e = Lv e := fun e he => by unfold upL; rw [if_neg (by omega), if_neg (by omega)]
  refine ⟨fun e he => ?_, fun e e' h1 h2 => ?_⟩
  · by_cases c : e = d
    · rw [c, ud, u1]; exact ⟨hr, hl, hp⟩
    · have he' : e < d := by omega
      obtain ⟨a1, a2, a3⟩ := h.1 e he'
      rw [ue e he']
      refine ⟨a1, ?_, a3⟩
      by_cases c2 : e + 1 = d
      · rw [c2, ud, hA, ← c2]; exact a2
      · rw [ue (e + 1) (by omega)]; exact a2
  · by_cases c : e = d
    · rw [show e' = d + 1 by omega, c, ud, u1]; exact hB
    · rw [ue e (by omega)]
      by_cases c1 : e' = d + 1
      · rw [c1, u1]
        have := h.2 e d (by omega) (Nat.le_refl _)
        omega
      · by_cases c2 : e' = d
        · rw [c2, ud, hb.1, hb.2]; exact h.2 e d (by omega) (Nat.le_refl _)
        · rw [ue e' (by omega)]; exact h.2 e e' h1 (by omega)
