/-! ===== checking: formulas that there are, and others ===== -/
/-- kind, first and second of a formula or of another -/
def gk (t q : FT) (f : Nat) : Nat := if f < 2000 then t.2.1 f else q.2.1 (f - 2000)
def gl (t q : FT) (f : Nat) : Nat := if f < 2000 then t.2.2.1 f else q.2.2.1 (f - 2000)
def gr (t q : FT) (f : Nat) : Nat := if f < 2000 then t.2.2.2 f else q.2.2.2 (f - 2000)
def vld (t q : FT) (f : Nat) : Prop := f < t.1 ∨ (2000 ≤ f ∧ f < 2000 + q.1)
def CF1 (s : StT) (q : FT) : Prop := CFF1 s q.1 q.2.1 q.2.2.1 q.2.2.2
def OTM (s : StT) (q : FT) : Prop := s.1 1 = nI q.1 ∧ ∀ g, g < q.1 → s.2.1 0 (2000 + g) = nI (q.2.1 g) ∧ s.2.1 1 (2000 + g) = nI (q.2.2.1 g) ∧ s.2.1 2 (2000 + g) = nI (q.2.2.2 g)
def OW (t q : FT) : Prop := q.1 ≤ 1600 ∧ (∀ g, g < q.1 → (q.2.1 g = 3 ∨ q.2.1 g = 5) ∧ vld t q (q.2.2.1 g) ∧ vld t q (q.2.2.2 g)) ∧ ∀ f g, f < q.1 → g < q.1 → q.2.1 f = q.2.1 g → q.2.2.1 f = q.2.2.1 g → q.2.2.2 f = q.2.2.2 g → f = g
def Gq (q q' : FT) : Prop := q.1 ≤ q'.1 ∧ ∀ g, g < q.1 → q'.2.1 g = q.2.1 g ∧ q'.2.2.1 g = q.2.2.1 g ∧ q'.2.2.2 g = q.2.2.2 g
theorem Gq.rf (q : FT) : Gq q q := ⟨Nat.le_refl _, fun _ _ => ⟨rfl, rfl, rfl⟩⟩
theorem Gq.tr {a b c : FT} (x : Gq a b) (y : Gq b c) : Gq a c := ⟨Nat.le_trans x.1 y.1, fun g hg => by
  have p := x.2 g hg; have r := y.2 g (Nat.lt_of_lt_of_le hg x.1); exact ⟨r.1.trans p.1, r.2.1.trans p.2.1, r.2.2.trans p.2.2⟩⟩
theorem vld.up {t q q' : FT} {f : Nat} (h : vld t q f) (g : Gq q q') : vld t q' f := by
  rcases h with h | h
  · exact Or.inl h
  · exact Or.inr ⟨h.1, by have := g.1; omega⟩
theorem vld.bd {t q : FT} {vn f : Nat} (h : vld t q f) (hw : WFt t vn) (ho : OW t q) : f < 3700 := by
  have := hw.2.1; have := ho.1
  rcases h with h | h <;> omega
theorem vld.keep {t q q' : FT} {vn f : Nat} (hw : WFt t vn) (h : vld t q f) (g : Gq q q') : gk t q' f = gk t q f ∧ gl t q' f = gl t q f ∧ gr t q' f = gr t q f := by
  have := hw.2.1
  unfold gk gl gr
  by_cases c : f < 2000
  · simp only [c, if_true]; exact ⟨trivial, trivial, trivial⟩
  · simp only [c, if_false]
    exact g.2 _ (by rcases h with h | h <;> omega)
/-- the parts of a formula that is one are such -/
theorem vld.parts {t q : FT} {vn f : Nat} (hw : WFt t vn) (ho : OW t q) (h : vld t q f) (hk : 3 ≤ gk t q f) : vld t q (gl t q f) ∧ vld t q (gr t q f) ∧ gk t q f ≤ 5 := by
  have h2 := hw.2.1
  unfold gk at hk
  unfold gk gl gr
  by_cases c : f < 2000
  · simp only [c, if_true] at hk ⊢
    have hf : f < t.1 := by rcases h with h | h <;> omega
    have h6 := hw.2.2.2.2.2.1 f (by
      by_cases c0 : f = 0
      · rw [c0, hw.2.2.1.1] at hk; omega
      · by_cases c1 : f = 1
        · rw [c1, hw.2.2.2.1.1] at hk; omega
        · omega) hf
    rcases h6 with z | z
    · omega
    · exact ⟨Or.inl (by omega), Or.inl (by omega), by omega⟩
  · simp only [c, if_false] at hk ⊢
    have hg : f - 2000 < q.1 := by rcases h with h | h <;> omega
    have := ho.2.1 _ hg
    exact ⟨this.2.1, this.2.2, by omega⟩
theorem nI_sub2 {g : Nat} : nI (2000 + g) - 2000 = nI g := by
  rw [Nat.add_comm, ← nI_add g 2000]
  exact Int32.add_sub_cancel _ _
/-! the class's looks at a formula -/
theorem kindC {n : Nat} {s : StT} {t q : FT} {vn f : Nat} (hC : CFt s t) (h1 : CF1 s q) (hw : WFt t vn) (ho : OW t q) (h : vld t q f) : f_X0_kindOf n s (nI f) = some (nI (gk t q f), s) ∧ f_X0_firstOf n s (nI f) = some (nI (gl t q f), s) ∧ f_X0_secondOf n s (nI f) = some (nI (gr t q f), s) := by
  have hb := h.bd hw ho
  have h2 := hw.2.1
  unfold f_X0_kindOf f_X0_firstOf f_X0_secondOf gk gl gr
  by_cases c : f < 2000
  · have hf : f < t.1 := by rcases h with h | h <;> omega
    have hn : ¬ (2000 : Int32) ≤ nI f := fun e => absurd ((nI_leI (a := 2000) (by omega) (by omega)).mp e) (by omega)
    simp only [if_neg hn, if_pos c]
    rw [kindOfF0 hC hf, firstOfF0 hC hf, secondOfF0 hC hf]
    exact ⟨rfl, rfl, rfl⟩
  · have hg : f - 2000 < q.1 := by rcases h with h | h <;> omega
    have hn : (2000 : Int32) ≤ nI f := (nI_leI (a := 2000) (by omega) (by omega)).mpr (by omega)
    have e : nI f - 2000 = nI (f - 2000) := by
      have := nI_sub2 (g := f - 2000)
      rw [show 2000 + (f - 2000) = f by omega] at this; exact this
    simp only [if_pos hn, if_neg c, e]
    rw [kindOfF1 h1 hg, firstOfF1 h1 hg, secondOfF1 h1 hg]
    exact ⟨rfl, rfl, rfl⟩
theorem kindC_m1 (n : Nat) (s : StT) : f_X0_kindOf n s (-1) = some (-1, s) := by
  unfold f_X0_kindOf f_X1_kindOf_F0
  rw [if_neg (by decide), hasF0_neg (by decide), Option.bind_some]
  simp only [if_true]
  rw [Option.bind_some]
/-! the reference's -/
theorem kindM {s : StT} {t q : FT} {vn f : Nat} (hM : MF s t) (h1 : OTM s q) (hw : WFt t vn) (h : vld t q f) : s.2.1 0 f = nI (gk t q f) ∧ s.2.1 1 f = nI (gl t q f) ∧ s.2.1 2 f = nI (gr t q f) := by
  have h2 := hw.2.1
  unfold gk gl gr
  by_cases c : f < 2000
  · have hf : f < t.1 := by rcases h with h | h <;> omega
    simp only [if_pos c]
    exact hM.2 f hf
  · have hg : f - 2000 < q.1 := by rcases h with h | h <;> omega
    simp only [if_neg c]
    have := h1.2 _ hg
    rw [show 2000 + (f - 2000) = f by omega] at this; exact this
/-! joining -/
def jq (t q : FT) (k a b : Nat) : Nat × FT := match lk t k a b t.1 with
  | some f => (f, q)
  | none => match lk q k a b q.1 with
    | some g => (2000 + g, q)
    | none => (2000 + q.1, addT q k a b)
theorem foundq {t q : FT} {k a b : Nat} {r : Int32} (ho : OW t q) (h : FoundR (isF q.2.1 q.2.2.1 q.2.2.2 k a b) q.1 r) : r = oI (lk q k a b q.1) := by
  cases e : lk q k a b q.1 with
  | some g =>
    obtain ⟨g1, g2⟩ := lk_some e
    rcases h with ⟨f, f1, f2, f3⟩ | ⟨f1, f2⟩
    · rw [f3]
      have := ho.2.2 f g f1 g1 (f2.1.trans g2.1.symm) (f2.2.1.trans g2.2.1.symm) (f2.2.2.trans g2.2.2.symm)
      rw [this]; rfl
    · exact absurd g2 (f1 g g1)
  | none =>
    rcases h with ⟨f, f1, f2, f3⟩ | ⟨f1, f2⟩
    · exact absurd f2 (lk_none e f f1)
    · exact f2
theorem OW.fit {t q : FT} {vn : Nat} (ho : OW t q) (hw : WFt t vn) : fitF q.1 q.2.1 q.2.2.1 q.2.2.2 := ⟨by have := ho.1; omega, fun f hf => by
  have a := ho.2.1 f hf
  have b1 := a.2.1.bd hw ho
  have b2 := a.2.2.bd hw ho
  exact ⟨by rcases a.1 with z | z <;> omega, by omega, by omega⟩⟩
theorem jq_ow {t q : FT} {vn k a b : Nat} (hw : WFt t vn) (ho : OW t q) (hk : k = 3 ∨ k = 5) (ha : vld t q a) (hb : vld t q b) (hq : q.1 < 1600) : OW t (jq t q k a b).2 ∧ Gq q (jq t q k a b).2 ∧ vld t (jq t q k a b).2 (jq t q k a b).1 ∧ (jq t q k a b).2.1 ≤ q.1 + 1 := by
  unfold jq
  cases e : lk t k a b t.1 with
  | some f => exact ⟨ho, Gq.rf q, Or.inl (lk_some e).1, Nat.le_succ _⟩
  | none =>
    cases e2 : lk q k a b q.1 with
    | some g => exact ⟨ho, Gq.rf q, Or.inr ⟨by simp only []; omega, by have := (lk_some e2).1; simp only []; omega⟩, Nat.le_succ _⟩
    | none =>
      have hg : Gq q (addT q k a b) := ⟨Nat.le_succ _, fun g hg => by
        have : g ≠ q.1 := by omega
        simp [addT, this]⟩
      refine ⟨⟨by show q.1 + 1 ≤ 1600; omega, fun g hg2 => ?_, fun f g hf hg2 x1 x2 x3 => ?_⟩, hg, Or.inr ⟨by simp only []; omega, by show 2000 + q.1 < 2000 + (q.1 + 1); omega⟩, Nat.le_refl _⟩
      · have hg2 : g < q.1 + 1 := hg2
        by_cases c : g = q.1
        · simp only [addT, c, if_true]
          exact ⟨hk, ha.up hg, hb.up hg⟩
        · have z := ho.2.1 g (by omega)
          simp only [addT, c, if_false]
          exact ⟨z.1, z.2.1.up hg, z.2.2.up hg⟩
      · have hf : f < q.1 + 1 := hf
        have hg2 : g < q.1 + 1 := hg2
        by_cases c : f = q.1
        · by_cases d : g = q.1
          · omega
          · simp [addT, c, d] at x1 x2 x3
            exact absurd ⟨x1.symm, x2.symm, x3.symm⟩ (lk_none e2 g (by omega))
        · by_cases d : g = q.1
          · simp [addT, c, d] at x1 x2 x3
            exact absurd ⟨x1, x2, x3⟩ (lk_none e2 f (by omega))
          · simp [addT, c, d] at x1 x2 x3
            exact ho.2.2 f g (by omega) (by omega) x1 x2 x3
theorem joinCK {n : Nat} (hn : 100000 ≤ n) {s : StT} {t q : FT} {vn k a b : Nat} (hC : CFt s t) (h1 : CF1 s q) (hw : WFt t vn) (ho : OW t q) (hk : k = 3 ∨ k = 5) (ha : vld t q a) (hb : vld t q b) (hq : q.1 < 1600) : ∃ s', f_X0_joined n s (nI k) (nI a) (nI b) = some (nI (jq t q k a b).1, s') ∧ CF1 s' (jq t q k a b).2 ∧ (∀ j, j ≠ 25 → s'.1 j = s.1 j) ∧ (∀ j, (j < 35 ∨ 39 < j) → s'.2.1 j = s.2.1 j) ∧ s'.2.2 = s.2.2 := by
  have ba := ha.bd hw ho
  have bb := hb.bd hw ho
  have h2 := hw.2.1
  have hk5 : k < 100000 := by rcases hk with z | z <;> omega
  obtain ⟨r, hr, hR⟩ := findF0 hn hC hw.fit hk5 (a := a) (b := b) (by omega) (by omega)
  have hr2 := found_lk hw hR
  subst hr2
  unfold f_X0_joined
  rw [if_neg (nI_nneg (by omega)), if_pos (nI_nn (by omega)), hr, Option.bind_some]
  simp only []
  unfold jq
  cases e : lk t k a b t.1 with
  | some f =>
    have := (lk_some e).1
    simp only []
    rw [if_neg (show ¬ oI (some f) < 0 from nI_nneg (by omega))]
    exact ⟨s, rfl, h1, fun _ _ => rfl, fun _ _ => rfl, rfl⟩
  | none =>
    simp only []
    rw [if_pos (show oI none < 0 from m1_neg)]
    obtain ⟨r2, hr2, hR2⟩ := findF1 hn h1 (ho.fit hw) hk5 (a := a) (b := b) (by omega) (by omega)
    have hr3 := foundq ho hR2
    subst hr3
    rw [joinedF1_eq]
    rw [hr2, Option.bind_some]
    simp only []
    cases e2 : lk q k a b q.1 with
    | some g =>
      have := (lk_some e2).1
      simp only []
      rw [if_neg (show ¬ oI (some g) < 0 from nI_nneg (by omega)), Option.bind_some]
      simp only []
      rw [if_pos (show 0 ≤ oI (some g) from nI_nn (by omega))]
      exact ⟨s, by rw [show oI (some g) = nI g from rfl, show (2000 : Int32) = nI 2000 from rfl, nI_add], h1, fun _ _ => rfl, fun _ _ => rfl, rfl⟩
    | none =>
      simp only []
      rw [if_pos (show oI none < 0 from m1_neg)]
      obtain ⟨s', e1, e3, e4, e5, e6⟩ := addF1 (n := n) h1 (k := k) (a := a) (b := b) (by omega)
      rw [e1, Option.bind_some, Option.bind_some]
      simp only []
      rw [if_pos (nI_nn (by omega))]
      exact ⟨s', by rw [show (2000 : Int32) = nI 2000 from rfl, nI_add], e3, e4, fun j hj => e5 j (by omega) (by omega) (by omega) (by omega) (by omega), e6⟩
theorem joinC_neg (n : Nat) (s : StT) (k x y : Int32) (h : x = -1 ∨ y = -1) (hx : x = -1 ∨ ∃ a, a < 2 ^ 31 ∧ x = nI a) : f_X0_joined n s k x y = some (-1, s) := by
  unfold f_X0_joined
  rcases hx with hx | ⟨a, ha, hx⟩
  · rw [hx, if_pos (by decide)]
  · rw [hx, if_neg (nI_nneg ha)]
    rcases h with h | h
    · rw [hx] at h; exact absurd h (nI_ne_m1 ha)
    · rw [h, if_neg (by decide)]
theorem asked_loop {n : Nat} {s : StT} {t q : FT} {k a b : Nat} (h1 : OTM s q) (hq : q.1 < 1600) (hk : k < 100000) (ha : a < 100000) (hb : b < 100000) (hqb : ∀ g, g < q.1 → q.2.1 g < 100000 ∧ q.2.2.1 g < 100000 ∧ q.2.2.2 g < 100000) : ∀ (d m fu : Nat), m + d = q.1 → d < fu → (∀ f, f < m → ¬ isF q.2.1 q.2.2.1 q.2.2.2 k a b f) →
    (∃ g, g < q.1 ∧ isF q.2.1 q.2.2.1 q.2.2.2 k a b g ∧ f_X12_askedFormula_22 n fu s (nI k) (nI a) (nI b) (nI (2000 + m)) = some (nI (2000 + g), s))
    ∨ ((∀ f, f < q.1 → ¬ isF q.2.1 q.2.2.1 q.2.2.2 k a b f) ∧ f_X12_askedFormula_22 n fu s (nI k) (nI a) (nI b) (nI (2000 + m)) = some (nI (2000 + q.1), uF (uA (uA (uA s 0 (nI (2000 + q.1)) (nI k)) 1 (nI (2000 + q.1)) (nI a)) 2 (nI (2000 + q.1)) (nI b)) 1 (nI (q.1 + 1)))) := by
  intro d
  induction d with
  | zero =>
    intro m fu hm hfu hno
    obtain ⟨fu, rfl⟩ : ∃ q, fu = q + 1 := ⟨fu - 1, by omega⟩
    right
    refine ⟨fun f hf => hno f (by omega), ?_⟩
    rw [f_X12_askedFormula_22]
    simp only [uA_1, h1.1, show (2000 : Int32) = nI 2000 from rfl, nI_add]
    rw [if_pos ((nI_leI (by omega) (by omega)).mpr (by omega))]
    simp only [inB_nI (show 2000 + q.1 < 4200 by omega) (by omega), if_true, uF_1, nI_1, nI_add, show 2000 + (q.1 + 1) = (2000 + q.1) + 1 by omega, nI_m1]
  | succ d ih =>
    intro m fu hm hfu hno
    obtain ⟨fu, rfl⟩ : ∃ q, fu = q + 1 := ⟨fu - 1, by omega⟩
    have hr := h1.2 m (by omega)
    have hb2 := hqb m (by omega)
    have hnext : (¬ isF q.2.1 q.2.2.1 q.2.2.2 k a b m) → (∃ g, g < q.1 ∧ isF q.2.1 q.2.2.1 q.2.2.2 k a b g ∧ f_X12_askedFormula_22 n fu s (nI k) (nI a) (nI b) (nI (2000 + m) + 1) = some (nI (2000 + g), s))
    ∨ ((∀ f, f < q.1 → ¬ isF q.2.1 q.2.2.1 q.2.2.2 k a b f) ∧ f_X12_askedFormula_22 n fu s (nI k) (nI a) (nI b) (nI (2000 + m) + 1) = some (nI (2000 + q.1), uF (uA (uA (uA s 0 (nI (2000 + q.1)) (nI k)) 1 (nI (2000 + q.1)) (nI a)) 2 (nI (2000 + q.1)) (nI b)) 1 (nI (q.1 + 1)))) := by
      intro hc
      rw [nI_1, show 2000 + m + 1 = 2000 + (m + 1) by omega]
      exact ih (m + 1) fu (by omega) (by omega) (fun f hf => by
        by_cases c : f = m
        · rw [c]; exact hc
        · exact hno f (by omega))
    rw [f_X12_askedFormula_22, h1.1, show (2000 : Int32) = nI 2000 from rfl, nI_add, if_neg (fun e => absurd ((nI_leI (by omega) (by omega)).mp e) (by omega)), inB_nI (show 2000 + m < 4200 by omega) (by omega), if_pos rfl, nI_cl (by omega), hr.1, hr.2.1, hr.2.2]
    simp only [if_true]
    by_cases c1 : q.2.1 m = k
    · rw [if_pos (by rw [c1])]
      by_cases c2 : q.2.2.1 m = a
      · rw [if_pos (by rw [c2])]
        by_cases c3 : q.2.2.2 m = b
        · rw [if_pos (by rw [c3])]
          exact Or.inl ⟨m, by omega, ⟨c1, c2, c3⟩, rfl⟩
        · rw [if_neg (fun e => c3 (nI_inj (by omega) (by omega) e))]
          exact hnext (fun e => c3 e.2.2)
      · rw [if_neg (fun e => c2 (nI_inj (by omega) (by omega) e))]
        exact hnext (fun e => c2 e.2.1)
    · rw [if_neg (fun e => c1 (nI_inj (by omega) (by omega) e))]
      exact hnext (fun e => c1 e.1)
theorem joinMK {n : Nat} (hn : 100000 ≤ n) {s : StT} {t q : FT} {vn k a b : Nat} (hM : MF s t) (h1 : OTM s q) (hw : WFt t vn) (ho : OW t q) (hk : k = 3 ∨ k = 5) (ha : vld t q a) (hb : vld t q b) (hq : q.1 < 1600) : ∃ s', f_X12_askedFormula n s (nI k) (nI a) (nI b) = some (nI (jq t q k a b).1, s') ∧ OTM s' (jq t q k a b).2 ∧ (∀ j, j ≠ 1 → s'.1 j = s.1 j) ∧ (∀ j, 2 < j → s'.2.1 j = s.2.1 j) ∧ (∀ j r, j < 3 → r < 2000 → s'.2.1 j r = s.2.1 j r) ∧ s'.2.2 = s.2.2 := by
  have ba := ha.bd hw ho
  have bb := hb.bd hw ho
  have h2 := hw.2.1
  have hk5 : k < 100000 := by rcases hk with z | z <;> omega
  unfold f_X12_askedFormula
  rw [findM hn hM hw hk5 (by omega) (by omega), Option.bind_some]
  simp only []
  unfold jq
  cases e : lk t k a b t.1 with
  | some f =>
    have := (lk_some e).1
    simp only []
    rw [if_neg (show ¬ oI (some f) < 0 from nI_nneg (by omega))]
    exact ⟨s, rfl, h1, fun _ _ => rfl, fun _ _ => rfl, fun _ _ _ _ => rfl, rfl⟩
  | none =>
    simp only []
    rw [if_pos (show oI none < 0 from m1_neg)]
    rcases asked_loop (n := n) (t := t) h1 hq hk5 (a := a) (b := b) (by omega) (by omega) (ho.fit hw).2 q.1 0 n (by omega) (by omega) (fun f hf => by omega) with ⟨g, hg, hi, er⟩ | ⟨hno, er⟩
    · cases e2 : lk q k a b q.1 with
      | some g' =>
        obtain ⟨z1, z2⟩ := lk_some e2
        have := ho.2.2 g g' hg z1 (hi.1.trans z2.1.symm) (hi.2.1.trans z2.2.1.symm) (hi.2.2.trans z2.2.2.symm)
        simp only []
        rw [← this]
        exact ⟨s, er, h1, fun _ _ => rfl, fun _ _ => rfl, fun _ _ _ _ => rfl, rfl⟩
      | none => exact absurd hi (lk_none e2 g hg)
    · cases e2 : lk q k a b q.1 with
      | some g' => exact absurd (lk_some e2).2 (hno g' (lk_some e2).1)
      | none =>
        simp only []
        refine ⟨_, er, ⟨rfl, fun g hg => ?_⟩, fun j hj => ?_, fun j hj => ?_, fun j r hj hr => ?_, rfl⟩
        · have hg : g < q.1 + 1 := hg
          simp only [uF_2, uA_21, if_true, if_neg (show ¬ (0 : Nat) = 1 by decide), if_neg (show ¬ (0 : Nat) = 2 by decide), if_neg (show ¬ (1 : Nat) = 2 by decide), if_neg (show ¬ (1 : Nat) = 0 by decide), if_neg (show ¬ (2 : Nat) = 0 by decide), if_neg (show ¬ (2 : Nat) = 1 by decide), upd_j, nI_cl (show 2000 + q.1 < 2 ^ 31 by omega)]
          by_cases c : g = q.1
          · simp [c, addT]
          · have := h1.2 g (by omega)
            simp only [show ¬ 2000 + g = 2000 + q.1 by omega, if_false, addT, c]
            exact this
        · simp only [uF_1, uA_1]; rw [if_neg hj]
        · simp only [uF_2, uA_21]; rw [if_neg (by omega), if_neg (by omega), if_neg (by omega)]
        · simp only [uF_2, uA_21]
          have e : ∀ (g : Nat → Int32) (x : Int32), upd g (nI (2000 + q.1)).toNatClampNeg x r = g r := fun g x => by rw [upd_j, nI_cl (by omega), if_neg (by omega)]
          repeat' split
          all_goals simp only [e]
