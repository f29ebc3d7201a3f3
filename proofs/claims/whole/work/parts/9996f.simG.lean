/-! ===== whether a term is a proof: both sides ===== -/
theorem mI_if (r : Bool) (s : StT) : (if mI r = 0 then some ((0 : Int32), s) else some (1, s)) = some (mI r, s) := by cases r <;> rfl
theorem mI_ne2 (r : Bool) : mI r ≠ -2 := by cases r <;> decide
theorem mI_dec (c : Prop) [Decidable c] : (if c then (1 : Int32) else 0) = mI (decide c) := by
  by_cases h : c
  · rw [if_pos h, decide_eq_true h]; rfl
  · rw [if_neg h, decide_eq_false h]; rfl
/-- one call whose answer is the answer -/
theorem ref_un {n : Nat} {sM0 : StT} {t q q1 : FT} {ar ar' : Nat → Nat} {m m' u u1 hb hb1 c c1 k : Nat} {G G1 r1 : Int32} {ok1 : Prop} (hR : RefA n sM0 t q q1 ar' m' u1 hb1 c1 G1 r1 ok1) (hu : u < 1600) (hk : sM0.2.1 40 u = nI k) (hr : r1 ≠ -2) (S0 : StT → Nat → StT)
    (hS0 : ∀ sM a, a < 3000 → KM sM0 t q ar m sM → KM sM0 t q ar' m' (S0 sM a) ∧ (S0 sM a).1 35 = sM.1 35 ∧ FKM m a sM (S0 sM a) ∧ (S0 sM a).2.1 49 a = sM.2.1 49 a ∧ (S0 sM a).2.1 50 a = sM.2.1 50 a ∧ (S0 sM a).2.1 51 a = nI 1)
    (hA0 : ∀ sM a b x, KM sM0 t q ar m sM → Row sM a u G 0 k → f_X12_askOf n (S0 sM a) (nI u1) G1 = some x → f_X12_answered n sM (nI a) b = some x)
    (hA1 : ∀ S a b, Row S a u G 1 k → f_X12_answered n S (nI a) b = some (b, sg S a 1))
    (hm : m ≤ m') (hc : c1 + 2 ≤ c) (hhb : hb1 + 1 ≤ hb) (hlo : ∀ S, KM sM0 t q1 ar' m' S → KM sM0 t q1 ar m S) : RefA n sM0 t q q1 ar m u hb c G r1 ok1 := by
  intro sM a b fo hKM h35 h49 h50 h51 hbb hfo
  obtain ⟨fo, rfl⟩ : ∃ z, fo = z + 1 := ⟨fo - 1, by omega⟩
  have h40 : sM.2.1 40 u = nI k := by rw [hKM.2.2.2 40 (by decide) (by decide)]; exact hk
  have hrow : Row sM a u G 0 k := ⟨by omega, hu, h49, h50, h51, h40⟩
  obtain ⟨z1, z2, z3, z4, z5, z6⟩ := hS0 sM a (by omega) hKM
  obtain ⟨S1, fo1, w1, w2, w3, w4, w5, w6⟩ := call hR z1 (a := a) (by rw [z2]; exact h35) (by omega) (fo := fo) (by omega)
  have r1' : Row S1 a u G 1 k := row_after w3 (by omega) hu (by rw [z4]; exact h49) (by rw [z5]; exact h50) z6 (by rw [z3.2.1 40 (by decide) (by decide)]; exact h40)
  obtain ⟨fo1, rfl⟩ : ∃ z, fo1 = z + 1 := ⟨fo1 - 1, by omega⟩
  exact ⟨uF (sg S1 a 1) 35 (nI a), fo1, by omega, rfl, ((z3.tr (w3.lo hm (by omega))).tr (FKM.sg _ (Nat.le_refl _) (by omega))).tr (FKM.f35 _ _ _ _), fun x => ((hlo _ (w4 x)).sg a 1).f35 _, fun res hRR => run_ask h35 (by omega) (hA0 sM a b _ hKM hrow w5) (w6 res (run_ret w2 (by omega) (hA1 S1 a r1 r1') hr hRR))⟩
theorem sg_pre {sM0 : StT} {t q : FT} {ar : Nat → Nat} {m : Nat} (sM : StT) (a : Nat) (ha : a < 3000) (h : KM sM0 t q ar m sM) : KM sM0 t q ar m (sg sM a 0) ∧ (sg sM a 0).1 35 = sM.1 35 ∧ FKM m a sM (sg sM a 0) ∧ (sg sM a 0).2.1 49 a = sM.2.1 49 a ∧ (sg sM a 0).2.1 50 a = sM.2.1 50 a ∧ (sg sM a 0).2.1 51 a = nI 1 := ⟨h.sg a 0, rfl, FKM.sg _ (Nat.le_refl _) ha, by rw [sg_A 49 (by decide)], by rw [sg_A 50 (by decide)], sg_51 ha⟩
theorem simG {n : Nat} (hn : 100000 ≤ n) {t : FT} {vn : Nat} (hw : WFt t vn) {sC0 sM0 : StT} {N h : Nat} (hN0 : sC0.1 8 = nI N) (hN3 : N ≤ 3000) {rG : StT → Int32 → Int32 → Int32 → Int32 → Option (Int32 × StT)} {rF : StT → Int32 → Int32 → Int32 → Option (Int32 × StT)} (ihG : SimG n t sC0 sM0 N h rG) (ihF : SimF n t sC0 sM0 N h rF) (ihS : SimF n t sC0 sM0 N (h + 1) rF) (hrF : ∃ rG2 rF2, ∀ s x1 x2 x3, rF s x1 x2 x3 = g_X0_formulaOf n rG2 rF2 s x1 x2 x3) : SimG n t sC0 sM0 N (h + 1) (fun st x1 x2 x3 x4 => g_X0_isProof n rG rF st x1 x2 x3 x4) := by
  intro i u m e q ar g dp sC hT hi hK hP hg hdp hm hq
  have hT0 := hT
  obtain ⟨a1, a2, a3, a4, a5, a6⟩ := hT
  have hu : u < 1600 := by omega
  have hN : sC.1 8 = nI N := by rw [hK.2.2.2.1]; exact hN0
  have tp := t0P (n := n) hN hN3 hi
  have d40 : nI dp ≤ (40 : Int32) := (nI_leI (b := 40) (by omega) (by omega)).mpr (by omega)
  have c7 : sC.2.1 7 i = sC0.2.1 7 i := by rw [hK.2.2.2.2 7 (by decide) (by decide)]
  have c8 : sC.2.1 8 i = sC0.2.1 8 i := by rw [hK.2.2.2.2 8 (by decide) (by decide)]
  have c9 : sC.2.1 9 i = sC0.2.1 9 i := by rw [hK.2.2.2.2 9 (by decide) (by decide)]
  have hw2 := hw.2.1
  have h0t : 2 ≤ t.1 := hw.1
  have hgb := hg.bd hw hP.1
  have hkm : ∀ {q : FT} {ar : Nat → Nat} {m : Nat} {s : StT} {j : Nat}, KM sM0 t q ar m s → 39 < j → j < 45 → s.2.1 j u = sM0.2.1 j u := fun hk x y => by rw [hk.2.2.2 _ x y]
  have kcg := kindC (n := n) hK.1 hK.2.1 hw hP.1 hg
  have hgkb : gk t q g < 10 := by
    by_cases c : 3 ≤ gk t q g
    · have := (hg.parts hw hP.1 c).2.2; omega
    · omega
  have hdef : ∀ (z : Int32 × StT), (∀ k, sC.2.1 7 i = k → k ≠ 67 ∧ k ≠ 73 ∧ k ≠ 74 ∧ k ≠ 76 ∧ k ≠ 80 ∧ k ≠ 88) → rF sC (nI i) (nI m) (nI dp) = some z → g_X0_isProof n rG rF sC (nI i) (nI g) (nI m) (nI dp) = some (mI (decide (z.1 = nI g)), z.2) := by
    intro z hk hz
    have hk := hk _ rfl
    unfold g_X0_isProof
    rw [if_neg (nI_nneg (by omega)), if_pos d40, tp.1, Option.bind_some]
    simp only []
    rw [tp.2.1, Option.bind_some]
    simp only []
    rw [tp.2.2.2.1, Option.bind_some]
    simp only []
    rw [if_neg hk.1, if_neg hk.2.1, if_neg hk.2.2.1, if_neg hk.2.2.2.1, if_neg hk.2.2.2.2.1, if_neg hk.2.2.2.2.2, hz, Option.bind_some]
    by_cases c : z.1 = nI g
    · rw [if_pos c, decide_eq_true c]; rfl
    · rw [if_neg c, decide_eq_false c]; rfl
  have noT : ∀ (s' : StT) (q' : FT), g_X0_isProof n rG rF sC (nI i) (nI g) (nI m) (nI dp) = some (0, s') → Gq q q' → q'.1 ≤ q.1 + (e - u) → KC sC0 t q' ar m s' → PV t q' ar m → FKC m sC s' → RefA n sM0 t q q' ar m u (2 * (h + 1)) (8 * (e - u)) (nI g) 0 False → ∃ (r : Bool) (sC' : StT) (q' : FT), (fun st x1 x2 x3 x4 => g_X0_isProof n rG rF st x1 x2 x3 x4) sC (nI i) (nI g) (nI m) (nI dp) = some (mI r, sC') ∧ Gq q q' ∧ q'.1 ≤ q.1 + (e - u) ∧ KC sC0 t q' ar m sC' ∧ PV t q' ar m ∧ FKC m sC sC' ∧ RefA n sM0 t q q' ar m u (2 * (h + 1)) (8 * (e - u)) (nI g) (mI r) (r = true) := fun s' q' p1 p2 p3 p4 p5 p6 p7 => ⟨false, s', q', p1, p2, p3, p4, p5, p6, fun sM a b fo y1 y2 y3 y4 y5 y6 y7 => by
      obtain ⟨w1, w2, w3, w4, w5, w6, w7⟩ := p7 sM a b fo y1 y2 y3 y4 y5 y6 y7
      exact ⟨w1, w2, w3, w4, w5, fun hx => absurd hx (by decide), w7⟩⟩
  rcases a6 with ⟨b1, b2, b3, v, b4, b5, b6⟩ | ⟨b1, b2, b3⟩ | ⟨k, i1, x1, hk, b1, b2, b3, b4, b5, hT1, b7⟩
  · obtain ⟨rG2, rF2, hrF⟩ := hrF
    have hvb := (hP.2 v b4).bd hw hP.1
    refine ⟨decide (nI (ar v) = nI g), sC, q, ?_, Gq.rf q, by omega, hK, hP, FKC.rf _ _, ?_⟩
    · exact hdef (nI (ar v), sC) (fun k hk => by rw [c7, b1] at hk; rw [← hk]; decide) (by
        rw [hrF, clsH hN hN3 hi (by omega) (by rw [c7]; exact b1) (by rw [c8]; exact b5) b4 (by omega), hK.2.2.1 v b4])
    · refine ref1 (by omega) (mI_ne2 _) hu (k := 72) (by rw [b2]; rfl) (fun sM a b hKM hrow => ?_)
      rw [ans_H hrow (by omega) (v := v) (by omega) (by rw [hkm hKM (by decide) (by decide)]; exact b6), hKM.2.2.1 v b4, mI_dec]
  · obtain ⟨rG2, rF2, hrF⟩ := hrF
    refine ⟨decide (1 = nI g), sC, q, ?_, Gq.rf q, by omega, hK, hP, FKC.rf _ _, ?_⟩
    · exact hdef (1, sC) (fun k hk => by rw [c7, b1] at hk; rw [← hk]; decide) (by
        rw [hrF, clsT hN hN3 hi (by omega) (by rw [c7]; exact b1)])
    · refine ref1 (by omega) (mI_ne2 _) hu (k := 84) (by rw [b2]; rfl) (fun sM a b hKM hrow => ?_)
      rw [ans_T hrow (by omega), mI_dec]
      rw [show decide (nI g = 1) = decide (1 = nI g) from decide_eq_decide.mpr ⟨Eq.symm, Eq.symm⟩]
  · have k7 : sC.2.1 7 i = nI k := by rw [c7]; exact b1
    have k8 : sC.2.1 8 i = nI i1 := by rw [c8]; exact b4
    have hlt1 := hT1.lt
    have hh1 : 1 ≤ h := by
      rcases Nat.eq_zero_or_pos h with z | z
      · rw [z] at hT1; exact hT1.elim
      · exact z
    by_cases hD : k = 65 ∨ k = 70 ∨ k = 83
    · -- the others: what the term has must be the goal
      clear b7
      obtain ⟨r, s1, q1, e1, e2, e3, e4, e5, e6, e7, e8⟩ := ihS i u m e q ar dp sC hT0 hi hK hP hdp hm hq
      have hkb := ltr_bd hk
      refine ⟨decide (oI r = nI g), s1, q1, ?_, e2, e3, e4, e5, e6, ?_⟩
      · refine hdef (oI r, s1) (fun k' hk' => ?_) e1
        rw [k7] at hk'
        rw [← hk']
        rcases hD with rfl | rfl | rfl <;> decide
      · intro sM a b fo hKM h35 h49 h50 h51 hb hfo
        obtain ⟨fo, rfl⟩ : ∃ z, fo = z + 1 := ⟨fo - 1, by omega⟩
        have hrow : Row sM a u (nI g) 0 k := ⟨by omega, hu, h49, h50, h51, by rw [hkm hKM (by decide) (by decide)]; exact b2⟩
        obtain ⟨S1, fo1, w1, w2, w3, w4, w5, w6⟩ := call e8 (hKM.sg a 0) (a := a) h35 (by omega) (fo := fo) (by omega)
        have hr1 : Row S1 a u (nI g) 1 k := row_after w3 (by omega) hu (by rw [sg_A 49 (by decide)]; exact h49) (by rw [sg_A 50 (by decide)]; exact h50) (sg_51 (by omega)) (by rw [sg_A 40 (by decide)]; exact hrow.2.2.2.2.2)
        obtain ⟨fo1, rfl⟩ : ∃ z, fo1 = z + 1 := ⟨fo1 - 1, by omega⟩
        refine ⟨uF (sg S1 a 1) 35 (nI a), fo1, by omega, rfl, (((FKM.sg _ (Nat.le_refl _) (by omega)).tr (w3.lo (by omega) (by omega))).tr (FKM.sg _ (Nat.le_refl _) (by omega))).tr (FKM.f35 _ _ _ _), fun x => ?_, fun res hR => run_ask h35 (by omega) ?_ (w6 res (run_ret w2 (by omega) ?_ (mI_ne2 _) hR))⟩
        · have hx := of_decide_eq_true x
          have : ∃ f, r = some f := by
            cases r with
            | none => exact absurd hx.symm (nI_ne_m1 (by omega))
            | some f => exact ⟨f, rfl⟩
          exact ((w4 this).sg a 1).f35 _
        · rw [ans_D0 hrow hD (by omega)]; exact w5
        · rw [ans_D1 hr1 hD (by omega), mI_dec]
    · simp only [LTR, List.mem_cons, List.not_mem_nil, or_false] at hk
      have hk : k = 76 ∨ k = 80 ∨ k = 73 ∨ k = 74 ∨ k = 88 ∨ k = 67 := by clear b7; omega
      clear hD
      rcases hk with rfl | rfl | hk
      · -- a function
        rw [show m + lam 76 = m + 1 from rfl] at hT1
        replace b7 : x1 = e ∧ ∃ f, f < t.1 ∧ sC0.2.1 9 i = nI f ∧ sM0.2.1 44 u = nI f := by
          rcases b7 with ⟨_, c2, c3⟩ | ⟨c1, _⟩
          · exact ⟨c2, c3 rfl⟩
          · exact absurd c1 (by decide)
        obtain ⟨rfl, f, hf, f9, f44⟩ := b7
        have head : ∀ z, ((f_X0_kindOf n sC (nI g)).bind fun q102 => (if q102.1 = (5 : Int32) then ((f_X0_firstOf n q102.2 (nI g)).bind fun q111 => ((f_X7_formulaOf_T0 n q111.2 (nI i)).bind fun q119 => (if q111.1 = q119.1 then ((f_X0_firstOf n q119.2 (nI g)).bind fun q128 => ((f_X0_binds n q128.2 q128.1 (nI m)).bind fun q132 => (if q132.1 = 0 then (some ((0 : Int32), q132.2)) else ((f_X0_secondOf n q132.2 (nI g)).bind fun q143 => ((rG q143.2 (nI i1) q143.1 (nI (m + 1)) (nI (dp + 1))).bind fun q153 => (if q153.1 = 0 then (some ((0 : Int32), q153.2)) else (some ((1 : Int32), q153.2)))))))) else (some ((0 : Int32), q119.2))))) else (some ((0 : Int32), q102.2)))) = some z → g_X0_isProof n rG rF sC (nI i) (nI g) (nI m) (nI dp) = some z := by
          intro z hz
          unfold g_X0_isProof
          rw [if_neg (nI_nneg (by omega)), if_pos d40, tp.1, Option.bind_some]
          simp only []
          rw [tp.2.1, Option.bind_some]
          simp only []
          rw [tp.2.2.2.1, Option.bind_some]
          simp only []
          rw [k7, k8, if_neg (by decide), if_neg (by decide), if_neg (by decide), if_pos (by decide), nI_1, nI_1]
          exact hz
        by_cases c5 : gk t q g = 5
        · have hpt := hg.parts hw hP.1 (by omega)
          have hb1 := hpt.1.bd hw hP.1
          by_cases cf : gl t q g = f
          · subst cf
            have hKb := hK.bind (f := gl t q g) (show m < 60 by omega)
            obtain ⟨r1, s1, q1, e1, e2, e3, e4, e5, e6, e8⟩ := ihG i1 (u + 1) (m + 1) x1 q (updN ar m (gl t q g)) (gr t q g) (dp + 1) (uA sC 40 (nI m) (nI (gl t q g))) hT1 (by omega) hKb (hP.bind hpt.1) hpt.2.1 (by omega) (by omega) (by omega)
            refine ⟨r1, s1, q1, head _ ?_, e2, by omega, e4.lo, e5.lo, (FKC.bd sC _ (by omega)).tr (e6.lo (by omega)), ?_⟩
            · rw [kcg.1, Option.bind_some]
              simp only []
              rw [if_pos (by rw [c5]; rfl), kcg.2.1, Option.bind_some]
              simp only []
              rw [tp.2.2.2.2, Option.bind_some]
              simp only []
              rw [c9, f9, if_pos rfl, kcg.2.1, Option.bind_some]
              simp only []
              rw [binds_e (by omega), Option.bind_some]
              simp only []
              rw [if_neg (by decide), (kindC (n := n) hKb.1 hKb.2.1 hw hP.1 hg).2.2, Option.bind_some]
              simp only []
              rw [e1, Option.bind_some]
              exact mI_if r1 s1
            · refine ref_un e8 hu (k := 76) b2 (mI_ne2 _) (fun sM a => uA (sg sM a 0) 48 (nI m) (nI (gl t q g))) (fun sM a ha hKM => ?_) (fun sM a b x hKM hrow hx => ?_) (fun S a b hrow => ans_L1 hrow (by omega)) (by omega) (by omega) (by omega) (fun S hS => hS.lo)
              · refine ⟨(hKM.sg a 0).bind (by omega), rfl, (FKM.sg _ (Nat.le_refl _) ha).tr (FKM.ar _ 48 _ (Or.inl ⟨rfl, Nat.le_refl _⟩) (by omega)), ?_, ?_, ?_⟩
                · simp only [uA_21, if_neg (show ¬ (49 : Nat) = 48 by decide)]; rw [sg_A 49 (by decide)]
                · simp only [uA_21, if_neg (show ¬ (50 : Nat) = 48 by decide)]; rw [sg_A 50 (by decide)]
                · simp only [uA_21, if_neg (show ¬ (51 : Nat) = 48 by decide)]; exact sg_51 ha
              · have km := kindM hKM.1 hKM.2.1 hw hg
                rw [ans_L0 hrow (by omega) (m := m) (by omega) (by rw [hkm hKM (by decide) (by decide)]; exact a5), km.1, if_pos (by rw [c5]; rfl), km.2.1, hkm hKM (by decide) (by decide), hkm hKM (by decide) (by decide), f44, if_pos rfl, b5, km.2.2]
                exact hx
          · have nf : ¬ nI (gl t q g) = nI f := fun e => cf (nI_inj (by omega) (by omega) e)
            refine noT sC q (head _ ?_) (Gq.rf q) (by omega) hK hP (FKC.rf _ _) ?_
            · rw [kcg.1, Option.bind_some]
              simp only []
              rw [if_pos (by rw [c5]; rfl), kcg.2.1, Option.bind_some]
              simp only []
              rw [tp.2.2.2.2, Option.bind_some]
              simp only []
              rw [c9, f9, if_neg nf]
            · refine ref1 (by omega) (by decide) hu (k := 76) b2 (fun sM a b hKM hrow => ?_)
              have km := kindM hKM.1 hKM.2.1 hw hg
              rw [ans_L0 hrow (by omega) (m := m) (by omega) (by rw [hkm hKM (by decide) (by decide)]; exact a5), km.1, if_pos (by rw [c5]; rfl), km.2.1, hkm hKM (by decide) (by decide), f44, if_neg nf]
        · have n5 : ¬ nI (gk t q g) = (5 : Int32) := fun e => c5 (nI_inj (b := 5) (by omega) (by omega) e)
          refine noT sC q (head _ ?_) (Gq.rf q) (by omega) hK hP (FKC.rf _ _) ?_
          · rw [kcg.1, Option.bind_some]
            simp only []
            rw [if_neg n5]
          · refine ref1 (by omega) (by decide) hu (k := 76) b2 (fun sM a b hKM hrow => ?_)
            have km := kindM hKM.1 hKM.2.1 hw hg
            rw [ans_L0 hrow (by omega) (m := m) (by omega) (by rw [hkm hKM (by decide) (by decide)]; exact a5), km.1, if_neg n5]
      · -- a pair
        rw [show m + lam 80 = m from rfl] at hT1
        replace b7 : ∃ i2, i2 < i ∧ sC0.2.1 9 i = nI i2 ∧ sM0.2.1 43 u = nI x1 ∧ TR sC0 sM0 t.1 h i2 x1 m e := by
          rcases b7 with ⟨c1, _⟩ | ⟨_, i2, x2, c2, c3, c4, c5, c6⟩
          · exact absurd c1 (by decide)
          · rcases c6 with ⟨_, rfl⟩ | ⟨c6, _⟩
            · exact ⟨i2, c2, c3, c4, c5⟩
            · exact absurd c6 (by decide)
        obtain ⟨i2, hi2, f9, f43, hT2⟩ := b7
        have hlt2 := hT2.lt
        have head : ∀ z, ((f_X0_kindOf n sC (nI g)).bind fun q167 => (if q167.1 = (3 : Int32) then ((f_X0_firstOf n q167.2 (nI g)).bind fun q179 => ((rG q179.2 (nI i1) q179.1 (nI m) (nI (dp + 1))).bind fun q187 => (if q187.1 = 0 then (some ((0 : Int32), q187.2)) else ((f_X0_secondOf n q187.2 (nI g)).bind fun q198 => ((rG q198.2 (nI i2) q198.1 (nI m) (nI (dp + 1))).bind fun q206 => (if q206.1 = 0 then (some ((0 : Int32), q206.2)) else (some ((1 : Int32), q206.2)))))))) else (some ((0 : Int32), q167.2)))) = some z → g_X0_isProof n rG rF sC (nI i) (nI g) (nI m) (nI dp) = some z := by
          intro z hz
          unfold g_X0_isProof
          rw [if_neg (nI_nneg (by omega)), if_pos d40, tp.1, Option.bind_some]
          simp only []
          rw [tp.2.1, Option.bind_some]
          simp only []
          rw [tp.2.2.2.1, Option.bind_some]
          simp only []
          rw [k7, k8, c9, f9, if_neg (by decide), if_neg (by decide), if_neg (by decide), if_neg (by decide), if_pos (by decide), nI_1]
          exact hz
        by_cases c3 : gk t q g = 3
        · have hpt := hg.parts hw hP.1 (by omega)
          obtain ⟨r1, s1, q1, e1, e2, e3, e4, e5, e6, e8⟩ := ihG i1 (u + 1) m x1 q ar (gl t q g) (dp + 1) sC hT1 (by omega) hK hP hpt.1 (by omega) (by omega) (by omega)
          have pre : ∀ (sM : StT) (a : Nat) (b : Int32) (fo : Nat), KM sM0 t q ar m sM → sM.1 35 = nI (a + 1) → sM.2.1 49 a = nI u → sM.2.1 50 a = nI g → sM.2.1 51 a = nI 0 → a + 2 * (h + 1) < 2990 → 8 * (e - u) ≤ fo + 1 → ∃ S1 fo1, fo ≤ fo1 + 8 * (x1 - (u + 1)) ∧ S1.1 35 = nI (a + 1) ∧ FKM m a sM S1 ∧ (r1 = true → KM sM0 t q1 ar m S1) ∧ Row S1 a u (nI g) 1 80 ∧ ∀ res, RUN n fo1 S1 (mI r1) res → RUN n (fo + 1) sM b res := by
            intro sM a b fo hKM h35 h49 h50 h51 hb hfo
            have hrow : Row sM a u (nI g) 0 80 := ⟨by omega, hu, h49, h50, h51, by rw [hkm hKM (by decide) (by decide)]; exact b2⟩
            obtain ⟨S1, fo1, w1, w2, w3, w4, w5, w6⟩ := call e8 (hKM.sg a 0) (a := a) h35 (by omega) (fo := fo) (by omega)
            refine ⟨S1, fo1, w1, w2, (FKM.sg _ (Nat.le_refl _) (by omega)).tr (w3.lo (by omega) (by omega)), w4, ?_, fun res hR => run_ask h35 (by omega) ?_ (w6 res hR)⟩
            · exact row_after w3 (by omega) hu (by rw [sg_A 49 (by decide)]; exact h49) (by rw [sg_A 50 (by decide)]; exact h50) (sg_51 (by omega)) (by rw [sg_A 40 (by decide)]; exact hrow.2.2.2.2.2)
            · have km := kindM hKM.1 hKM.2.1 hw hg
              rw [ans_P0 hrow (by omega), km.1, if_pos (by rw [c3]; rfl), hkm hKM (by decide) (by decide), b5, km.2.1]
              exact w5
          cases r1 with
          | false =>
            refine noT s1 q1 (head _ ?_) e2 (by omega) e4 e5 e6 ?_
            · rw [kcg.1, Option.bind_some]
              simp only []
              rw [if_pos (by rw [c3]; rfl), kcg.2.1, Option.bind_some]
              simp only []
              rw [e1, Option.bind_some]
              simp only []
              rw [if_pos (by decide)]
            · intro sM a b fo hKM h35 h49 h50 h51 hb hfo
              obtain ⟨fo, rfl⟩ : ∃ z, fo = z + 1 := ⟨fo - 1, by omega⟩
              obtain ⟨S1, fo1, w1, w2, w3, w4, w5, w6⟩ := pre sM a b fo hKM h35 h49 h50 h51 hb hfo
              obtain ⟨fo1, rfl⟩ : ∃ z, fo1 = z + 1 := ⟨fo1 - 1, by omega⟩
              exact ⟨uF (sg S1 a 1) 35 (nI a), fo1, by omega, rfl, (w3.tr (FKM.sg _ (Nat.le_refl _) (by omega))).tr (FKM.f35 _ _ _ _), fun x => x.elim, fun res hR => w6 res (run_ret w2 (by omega) (by rw [ans_P1 w5 (by omega), if_neg (by decide)]; rfl) (by decide) hR)⟩
          | true =>
            have hkp := hg.keep hw e2
            have kc1 := kindC (n := n) e4.1 e4.2.1 hw e5.1 (hg.up e2)
            obtain ⟨r2, s2, q2, d1, d2, d3, d4, d5, d6, d8⟩ := ihG i2 x1 m e q1 ar (gr t q g) (dp + 1) s1 hT2 (by omega) e4 e5 (hpt.2.1.up e2) (by omega) (by omega) (by omega)
            refine ⟨r2, s2, q2, head _ ?_, e2.tr d2, by omega, d4, d5, e6.tr d6, ?_⟩
            · rw [kcg.1, Option.bind_some]
              simp only []
              rw [if_pos (by rw [c3]; rfl), kcg.2.1, Option.bind_some]
              simp only []
              rw [e1, Option.bind_some]
              simp only []
              rw [if_neg (by decide), kc1.2.2, Option.bind_some]
              simp only []
              rw [hkp.2.2, d1, Option.bind_some]
              exact mI_if r2 s2
            · intro sM a b fo hKM h35 h49 h50 h51 hb hfo
              obtain ⟨fo, rfl⟩ : ∃ z, fo = z + 1 := ⟨fo - 1, by omega⟩
              obtain ⟨S1, fo1, w1, w2, w3, w4, w5, w6⟩ := pre sM a b fo hKM h35 h49 h50 h51 hb hfo
              obtain ⟨fo1, rfl⟩ : ∃ z, fo1 = z + 1 := ⟨fo1 - 1, by omega⟩
              have kS := w4 rfl
              have km := kindM kS.1 kS.2.1 hw (hg.up e2)
              obtain ⟨S2, fo2, y1, y2, y3, y4, y5, y6⟩ := call d8 (kS.sg a 1) (a := a) w2 (by omega) (fo := fo1) (by omega)
              have hr2 : Row S2 a u (nI g) 2 80 := row_after y3 (by omega) hu (by rw [sg_A 49 (by decide)]; exact w5.2.2.1) (by rw [sg_A 50 (by decide)]; exact w5.2.2.2.1) (sg_51 (by omega)) (by rw [sg_A 40 (by decide)]; exact w5.2.2.2.2.2)
              obtain ⟨fo2, rfl⟩ : ∃ z, fo2 = z + 1 := ⟨fo2 - 1, by omega⟩
              refine ⟨uF (sg S2 a 2) 35 (nI a), fo2, by omega, rfl, (((w3.tr (FKM.sg _ (Nat.le_refl _) (by omega))).tr (y3.lo (by omega) (by omega))).tr (FKM.sg _ (Nat.le_refl _) (by omega))).tr (FKM.f35 _ _ _ _), fun x => ((y4 x).sg a 2).f35 _, fun res hR => w6 res (run_ask w2 (by omega) ?_ (y6 res (run_ret y2 (by omega) (ans_P2 hr2 (by omega)) (mI_ne2 _) hR)))⟩
              rw [ans_P1 w5 (by omega), if_pos (by decide), hkm kS (by decide) (by decide), f43, km.2.2, hkp.2.2]
              exact y5
        · have n3 : ¬ nI (gk t q g) = (3 : Int32) := fun e => c3 (nI_inj (b := 3) (by omega) (by omega) e)
          refine noT sC q (head _ ?_) (Gq.rf q) (by omega) hK hP (FKC.rf _ _) ?_
          · rw [kcg.1, Option.bind_some]
            simp only []
            rw [if_neg n3]
          · refine ref1 (by omega) (by decide) hu (k := 80) b2 (fun sM a b hKM hrow => ?_)
            have km := kindM hKM.1 hKM.2.1 hw hg
            rw [ans_P0 hrow (by omega), km.1, if_neg n3]
      · by_cases h67 : k = 67
        · subst h67
          clear hk
          rw [show m + lam 67 = m from rfl] at hT1
          replace b7 : ∃ i2 x2 i3, i2 < i ∧ i3 < i ∧ sC0.2.1 9 i = nI i2 ∧ sC0.2.1 10 i = nI i3 ∧ sM0.2.1 43 u = nI x1 ∧ sM0.2.1 44 u = nI x2 ∧ TR sC0 sM0 t.1 h i2 x1 (m + 1) x2 ∧ TR sC0 sM0 t.1 h i3 x2 (m + 1) e := by
            rcases b7 with ⟨c1, _⟩ | ⟨_, i2, x2, c2, c3, c4, c5, c6⟩
            · exact absurd c1 (by decide)
            · rcases c6 with ⟨c6, _⟩ | ⟨_, i3, y1, y2, y3, y4⟩
              · exact absurd c6 (by decide)
              · exact ⟨i2, x2, i3, c2, y1, c3, y2, c4, y3, c5, y4⟩
          obtain ⟨i2, x2, i3, hi2, hi3, f9, f10, f43, f44, hT2, hT3⟩ := b7
          have hlt2 := hT2.lt
          have hlt3 := hT3.lt
          obtain ⟨r1, s1, q1, e1, e2, e3, e4, e5, e6, e7, e8⟩ := ihF i1 (u + 1) m x1 q ar (dp + 1) sC hT1 (by omega) hK hP (by omega) (by omega) (by omega)
          have head : ∀ z, ((f_X0_kindOf n s1 (oI r1)).bind fun q315 => (if q315.1 = (4 : Int32) then ((f_X0_firstOf n q315.2 (oI r1)).bind fun q326 => ((f_X0_binds n q326.2 q326.1 (nI m)).bind fun q330 => (if q330.1 = 0 then (some ((0 : Int32), q330.2)) else ((rG q330.2 (nI i2) (nI g) (nI (m + 1)) (nI (dp + 1))).bind fun q347 => (if q347.1 = 0 then (some ((0 : Int32), q347.2)) else ((f_X0_secondOf n q347.2 (oI r1)).bind fun q357 => ((f_X0_binds n q357.2 q357.1 (nI m)).bind fun q361 => (if q361.1 = 0 then (some ((0 : Int32), q361.2)) else ((f_X7_partOf_T0 n q361.2 (nI i) (2 : Int32)).bind fun q374 => ((rG q374.2 q374.1 (nI g) (nI (m + 1)) (nI (dp + 1))).bind fun q385 => (if q385.1 = 0 then (some ((0 : Int32), q385.2)) else (some ((1 : Int32), q385.2))))))))))))) else (some ((0 : Int32), q315.2)))) = some z → g_X0_isProof n rG rF sC (nI i) (nI g) (nI m) (nI dp) = some z := by
            intro z hz
            unfold g_X0_isProof
            rw [if_neg (nI_nneg (by omega)), if_pos d40, tp.1, Option.bind_some]
            simp only []
            rw [tp.2.1, Option.bind_some]
            simp only []
            rw [tp.2.2.2.1, Option.bind_some]
            simp only []
            rw [k7, k8, c9, f9, if_pos (by decide), nI_1, nI_1, e1, Option.bind_some]
            exact hz
          have pre : ∀ (sM : StT) (a : Nat) (b : Int32) (fo : Nat), KM sM0 t q ar m sM → sM.1 35 = nI (a + 1) → sM.2.1 49 a = nI u → sM.2.1 50 a = nI g → sM.2.1 51 a = nI 0 → a + 2 * (h + 1) < 2990 → 8 * (e - u) ≤ fo + 1 → ∃ S1 fo1, fo ≤ fo1 + (8 * (x1 - (u + 1)) - 4) ∧ S1.1 35 = nI (a + 1) ∧ FKM m a sM S1 ∧ ((∃ f, r1 = some f) → KM sM0 t q1 ar m S1) ∧ Row S1 a u (nI g) 1 67 ∧ ∀ res, RUN n fo1 S1 (oI r1) res → RUN n (fo + 1) sM b res := by
            intro sM a b fo hKM h35 h49 h50 h51 hb hfo
            have hrow : Row sM a u (nI g) 0 67 := ⟨by omega, hu, h49, h50, h51, by rw [hkm hKM (by decide) (by decide)]; exact b2⟩
            obtain ⟨S1, fo1, w1, w2, w3, w4, w5, w6⟩ := call e8 (hKM.sg a 0) (a := a) h35 (by omega) (fo := fo) (by omega)
            refine ⟨S1, fo1, w1, w2, (FKM.sg _ (Nat.le_refl _) (by omega)).tr (w3.lo (by omega) (by omega)), w4, ?_, fun res hR => run_ask h35 (by omega) ?_ (w6 res hR)⟩
            · exact row_after w3 (by omega) hu (by rw [sg_A 49 (by decide)]; exact h49) (by rw [sg_A 50 (by decide)]; exact h50) (sg_51 (by omega)) (by rw [sg_A 40 (by decide)]; exact hrow.2.2.2.2.2)
            · rw [ans_C hrow (by omega), cas_0 hu, sg_A 42 (by decide), hkm hKM (by decide) (by decide), b5]
              exact w5
          cases r1 with
          | none =>
            refine noT s1 q1 (head _ ?_) e2 (by omega) e4 e5 e6 ?_
            · rw [show oI none = -1 from rfl, kindC_m1, Option.bind_some]
              simp only []
              rw [if_neg (by decide)]
            · intro sM a b fo hKM h35 h49 h50 h51 hb hfo
              obtain ⟨fo, rfl⟩ : ∃ z, fo = z + 1 := ⟨fo - 1, by omega⟩
              obtain ⟨S1, fo1, w1, w2, w3, w4, w5, w6⟩ := pre sM a b fo hKM h35 h49 h50 h51 hb hfo
              obtain ⟨fo1, rfl⟩ : ∃ z, fo1 = z + 1 := ⟨fo1 - 1, by omega⟩
              exact ⟨uF (sg S1 a 1) 35 (nI a), fo1, by omega, rfl, (w3.tr (FKM.sg _ (Nat.le_refl _) (by omega))).tr (FKM.f35 _ _ _ _), fun x => x.elim, fun res hR => w6 res (run_ret w2 (by omega) (by rw [ans_C w5 (by omega)]; exact cas_1n) (by decide) hR)⟩
          | some f1 =>
            have hv1 := e7 f1 rfl
            have hb1 := hv1.bd hw e5.1
            have kc := kindC (n := n) e4.1 e4.2.1 hw e5.1 hv1
            have hgk : gk t q1 f1 < 10 := by
              by_cases c : 3 ≤ gk t q1 f1
              · have := (hv1.parts hw e5.1 c).2.2; omega
              · omega
            by_cases c4 : gk t q1 f1 = 4
            · have hpt := hv1.parts hw e5.1 (by omega)
              have hKb := e4.bind (f := gl t q1 f1) (show m < 60 by omega)
              obtain ⟨r2, s2, q2, d1, d2, d3, d4, d5, d6, d8⟩ := ihG i2 x1 (m + 1) x2 q1 (updN ar m (gl t q1 f1)) g (dp + 1) (uA s1 40 (nI m) (nI (gl t q1 f1))) hT2 (by omega) hKb (e5.bind hpt.1) (hg.up e2) (by omega) (by omega) (by omega)
              have fk2 : FKC m s1 s2 := (FKC.bd s1 _ (by omega)).tr (d6.lo (by omega))
              have head2 : ∀ z, (if mI r2 = 0 then (some ((0 : Int32), s2)) else ((f_X0_secondOf n s2 (nI f1)).bind fun q357 => ((f_X0_binds n q357.2 q357.1 (nI m)).bind fun q361 => (if q361.1 = 0 then (some ((0 : Int32), q361.2)) else ((f_X7_partOf_T0 n q361.2 (nI i) (2 : Int32)).bind fun q374 => ((rG q374.2 q374.1 (nI g) (nI (m + 1)) (nI (dp + 1))).bind fun q385 => (if q385.1 = 0 then (some ((0 : Int32), q385.2)) else (some ((1 : Int32), q385.2))))))))) = some z → g_X0_isProof n rG rF sC (nI i) (nI g) (nI m) (nI dp) = some z := by
                intro z hz
                refine head z ?_
                rw [show oI (some f1) = nI f1 from rfl, kc.1, Option.bind_some]
                simp only []
                rw [if_pos (by rw [c4]; rfl), kc.2.1, Option.bind_some]
                simp only []
                rw [binds_e (by omega), Option.bind_some]
                simp only []
                rw [if_neg (by decide), d1, Option.bind_some]
                exact hz
              have pre2 : ∀ (sM : StT) (a : Nat) (b : Int32) (fo : Nat), KM sM0 t q ar m sM → sM.1 35 = nI (a + 1) → sM.2.1 49 a = nI u → sM.2.1 50 a = nI g → sM.2.1 51 a = nI 0 → a + 2 * (h + 1) < 2990 → 8 * (e - u) ≤ fo + 2 → ∃ S2 fo2, fo ≤ fo2 + (8 * (x1 - (u + 1)) - 4) + 8 * (x2 - x1) ∧ S2.1 35 = nI (a + 1) ∧ FKM m a sM S2 ∧ (r2 = true → KM sM0 t q2 ar m S2) ∧ Row S2 a u (nI g) 2 67 ∧ S2.2.1 52 a = nI f1 ∧ ∀ res, RUN n fo2 S2 (mI r2) res → RUN n (fo + 2) sM b res := by
                intro sM a b fo hKM h35 h49 h50 h51 hb hfo
                obtain ⟨S1, fo1, w1, w2, w3, w4, w5, w6⟩ := pre sM a b (fo + 1) hKM h35 h49 h50 h51 hb (by omega)
                have kS := w4 ⟨f1, rfl⟩
                obtain ⟨fo1, rfl⟩ : ∃ z, fo1 = z + 1 := ⟨fo1 - 1, by omega⟩
                have km := kindM kS.1 kS.2.1 hw hv1
                obtain ⟨S2, fo2, y1, y2, y3, y4, y5, y6⟩ := call d8 (((kS.sg a 1).w52 (nI a) (nI f1)).bind (show m < 80 by omega)) (a := a) w2 (by omega) (fo := fo1) (by omega)
                have fS : FKM m a S1 (uA (uA (sg S1 a 1) 52 (nI a) (nI f1)) 48 (nI m) (nI (gl t q1 f1))) := ((FKM.sg _ (Nat.le_refl _) (by omega)).tr (FKM.ar _ 52 _ (Or.inr ⟨by decide, by decide, Nat.le_refl _⟩) (by omega))).tr (FKM.ar _ 48 _ (Or.inl ⟨rfl, Nat.le_refl _⟩) (by omega))
                refine ⟨S2, fo2, by omega, y2, (w3.tr fS).tr (y3.lo (by omega) (by omega)), fun x => (y4 x).lo, ?_, ?_, fun res hR => w6 res (run_ask w2 (by omega) ?_ (y6 res hR))⟩
                · refine row_after y3 (by omega) hu ?_ ?_ ?_ ?_
                  · simp only [uA_21, if_neg (show ¬ (49 : Nat) = 52 by decide), if_neg (show ¬ (49 : Nat) = 48 by decide)]; rw [sg_A 49 (by decide)]; exact w5.2.2.1
                  · simp only [uA_21, if_neg (show ¬ (50 : Nat) = 52 by decide), if_neg (show ¬ (50 : Nat) = 48 by decide)]; rw [sg_A 50 (by decide)]; exact w5.2.2.2.1
                  · simp only [uA_21, if_neg (show ¬ (51 : Nat) = 52 by decide), if_neg (show ¬ (51 : Nat) = 48 by decide)]; exact sg_51 (by omega)
                  · simp only [uA_21, if_neg (show ¬ (40 : Nat) = 52 by decide), if_neg (show ¬ (40 : Nat) = 48 by decide)]; rw [sg_A 40 (by decide)]; exact w5.2.2.2.2.2
                · rw [y3.2.2.2.2.1 52 a (by decide) (by decide) (by omega)]
                  simp only [uA_21, if_true, if_neg (show ¬ (52 : Nat) = 48 by decide), upd_j, nI_cl (show a < 2 ^ 31 by omega)]
                · rw [ans_C w5 (by omega), show oI (some f1) = nI f1 from rfl, cas_1 hu (by omega) (by omega) (m := m) (by omega) (by rw [sg_A 41 (by decide), hkm kS (by decide) (by decide)]; exact a5), sg_A 0 (by decide), km.1, if_pos (by rw [c4]; rfl), sg_A 1 (by decide), sg_A 43 (by decide), hkm kS (by decide) (by decide), f43, km.2.1]
                  exact y5
              cases r2 with
              | false =>
                refine noT s2 q2 (head2 _ (by rw [if_pos (by decide)])) (e2.tr d2) (by omega) d4.lo d5.lo (e6.tr fk2) ?_
                intro sM a b fo hKM h35 h49 h50 h51 hb hfo
                obtain ⟨fo, rfl⟩ : ∃ z, fo = z + 2 := ⟨fo - 2, by omega⟩
                obtain ⟨S2, fo2, w1, w2, w3, w4, w5, w7, w6⟩ := pre2 sM a b fo hKM h35 h49 h50 h51 hb hfo
                obtain ⟨fo2, rfl⟩ : ∃ z, fo2 = z + 1 := ⟨fo2 - 1, by omega⟩
                exact ⟨uF (sg S2 a 2) 35 (nI a), fo2, by omega, rfl, (w3.tr (FKM.sg _ (Nat.le_refl _) (by omega))).tr (FKM.f35 _ _ _ _), fun x => x.elim, fun res hR => w6 res (run_ret w2 (by omega) (by rw [ans_C w5 (by omega)]; exact cas_2n) (by decide) hR)⟩
              | true =>
                have kc2 := kindC (n := n) d4.1 d4.2.1 hw d5.1 (hv1.up d2)
                have hkp := hv1.keep hw d2
                have hKb2 := d4.lo.bind (f := gr t q1 f1) (show m < 60 by omega)
                obtain ⟨r3, s3, q3, p1, p2, p3, p4, p5, p6, p8⟩ := ihG i3 x2 (m + 1) e q2 (updN ar m (gr t q1 f1)) g (dp + 1) (uA s2 40 (nI m) (nI (gr t q1 f1))) hT3 (by omega) hKb2 (d5.lo.bind (hpt.2.1.up d2)) (hg.up (e2.tr d2)) (by omega) (by omega) (by omega)
                have fk3 : FKC m s2 s3 := (FKC.bd s2 _ (by omega)).tr (p6.lo (by omega))
                refine ⟨r3, s3, q3, head2 _ ?_, (e2.tr d2).tr p2, by omega, p4.lo, p5.lo, (e6.tr fk2).tr fk3, ?_⟩
                · rw [if_neg (by decide), kc2.2.2, Option.bind_some]
                  simp only []
                  rw [hkp.2.2, binds_e (by omega), Option.bind_some]
                  simp only []
                  rw [if_neg (by decide), (t0P (n := n) (s := uA s2 40 (nI m) (nI (gr t q1 f1))) (by rw [hKb2.2.2.2.1]; exact hN0) hN3 hi).2.2.1, Option.bind_some]
                  simp only []
                  rw [hKb2.2.2.2.2 10 (by decide) (by decide), f10, p1, Option.bind_some]
                  exact mI_if r3 s3
                · intro sM a b fo hKM h35 h49 h50 h51 hb hfo
                  obtain ⟨fo, rfl⟩ : ∃ z, fo = z + 2 := ⟨fo - 2, by omega⟩
                  obtain ⟨S2, fo2, w1, w2, w3, w4, w5, w7, w6⟩ := pre2 sM a b fo hKM h35 h49 h50 h51 hb hfo
                  obtain ⟨fo2, rfl⟩ : ∃ z, fo2 = z + 1 := ⟨fo2 - 1, by omega⟩
                  have kS := w4 rfl
                  have km := kindM kS.1 kS.2.1 hw (hv1.up d2)
                  obtain ⟨S3, fo3, y1, y2, y3, y4, y5, y6⟩ := call p8 ((kS.sg a 2).bind (show m < 80 by omega)) (a := a) w2 (by omega) (fo := fo2) (by omega)
                  have fS : FKM m a S2 (uA (sg S2 a 2) 48 (nI m) (nI (gr t q1 f1))) := (FKM.sg _ (Nat.le_refl _) (by omega)).tr (FKM.ar _ 48 _ (Or.inl ⟨rfl, Nat.le_refl _⟩) (by omega))
                  have hr3 : Row S3 a u (nI g) 3 67 := by
                    refine row_after y3 (by omega) hu ?_ ?_ ?_ ?_
                    · simp only [uA_21, if_neg (show ¬ (49 : Nat) = 48 by decide)]; rw [sg_A 49 (by decide)]; exact w5.2.2.1
                    · simp only [uA_21, if_neg (show ¬ (50 : Nat) = 48 by decide)]; rw [sg_A 50 (by decide)]; exact w5.2.2.2.1
                    · simp only [uA_21, if_neg (show ¬ (51 : Nat) = 48 by decide)]; exact sg_51 (by omega)
                    · simp only [uA_21, if_neg (show ¬ (40 : Nat) = 48 by decide)]; rw [sg_A 40 (by decide)]; exact w5.2.2.2.2.2
                  obtain ⟨fo3, rfl⟩ : ∃ z, fo3 = z + 1 := ⟨fo3 - 1, by omega⟩
                  refine ⟨uF (sg S3 a 3) 35 (nI a), fo3, by omega, rfl, (((w3.tr fS).tr (y3.lo (by omega) (by omega))).tr (FKM.sg _ (Nat.le_refl _) (by omega))).tr (FKM.f35 _ _ _ _), fun x => ((y4 x).lo.sg a 3).f35 _, fun res hR => w6 res (run_ask w2 (by omega) ?_ (y6 res (run_ret y2 (by omega) (by rw [ans_C hr3 (by omega)]; exact cas_3) (mI_ne2 _) hR)))⟩
                  rw [ans_C w5 (by omega), show mI true = (1 : Int32) from rfl, cas_2 hu (by omega) (f := f1) (by omega) (m := m) (by omega) (by rw [sg_A 41 (by decide), hkm kS (by decide) (by decide)]; exact a5) (by rw [sg_A 52 (by decide)]; exact w7), sg_A 2 (by decide), sg_A 44 (by decide), km.2.2, hkp.2.2, hkm kS (by decide) (by decide), f44]
                  exact y5
            · have n4 : ¬ nI (gk t q1 f1) = (4 : Int32) := fun e => c4 (nI_inj (b := 4) (by omega) (by omega) e)
              refine noT s1 q1 (head _ ?_) e2 (by omega) e4 e5 e6 ?_
              · rw [show oI (some f1) = nI f1 from rfl, kc.1, Option.bind_some]
                simp only []
                rw [if_neg n4]
              · intro sM a b fo hKM h35 h49 h50 h51 hb hfo
                obtain ⟨fo, rfl⟩ : ∃ z, fo = z + 1 := ⟨fo - 1, by omega⟩
                obtain ⟨S1, fo1, w1, w2, w3, w4, w5, w6⟩ := pre sM a b fo hKM h35 h49 h50 h51 hb hfo
                obtain ⟨fo1, rfl⟩ : ∃ z, fo1 = z + 1 := ⟨fo1 - 1, by omega⟩
                have kS := w4 ⟨f1, rfl⟩
                have km := kindM kS.1 kS.2.1 hw hv1
                refine ⟨uF (sg S1 a 1) 35 (nI a), fo1, by omega, rfl, (w3.tr (FKM.sg _ (Nat.le_refl _) (by omega))).tr (FKM.f35 _ _ _ _), fun x => x.elim, fun res hR => w6 res (run_ret w2 (by omega) ?_ (by decide) hR)⟩
                rw [ans_C w5 (by omega), show oI (some f1) = nI f1 from rfl, cas_1 hu (by omega) (by omega) (m := m) (by omega) (by rw [sg_A 41 (by decide), hkm kS (by decide) (by decide)]; exact a5), sg_A 0 (by decide), km.1, if_neg n4]
        · replace hk : k = 73 ∨ k = 74 ∨ k = 88 := by clear b7; omega
          have elam : m + lam k = m := by rcases hk with rfl | rfl | rfl <;> rfl
          have epk : pk k = 1 := by rcases hk with rfl | rfl | rfl <;> rfl
          rw [elam] at hT1
          replace b7 : x1 = e := by
            rcases b7 with ⟨_, c2, _⟩ | ⟨c1, _⟩
            · exact c2
            · omega
          subst b7
          rcases hk with rfl | rfl | rfl
          · -- 73
            have head : ∀ z, ((f_X0_kindOf n sC (nI g)).bind fun q220 => (if q220.1 = (4 : Int32) then ((f_X0_firstOf n q220.2 (nI g)).bind fun q232 => ((rG q232.2 (nI i1) q232.1 (nI m) (nI (dp + 1))).bind fun q240 => (if q240.1 = 0 then (some ((0 : Int32), q240.2)) else (some ((1 : Int32), q240.2))))) else (some ((0 : Int32), q220.2)))) = some z → g_X0_isProof n rG rF sC (nI i) (nI g) (nI m) (nI dp) = some z := by
              intro z hz
              unfold g_X0_isProof
              rw [if_neg (nI_nneg (by omega)), if_pos d40, tp.1, Option.bind_some]
              simp only []
              rw [tp.2.1, Option.bind_some]
              simp only []
              rw [tp.2.2.2.1, Option.bind_some]
              simp only []
              rw [k7, k8, if_neg (by decide), if_pos (by decide), nI_1]
              exact hz
            by_cases c4 : gk t q g = 4
            · have hpt := hg.parts hw hP.1 (by omega)
              obtain ⟨r1, s1, q1, e1, e2, e3, e4, e5, e6, e8⟩ := ihG i1 (u + 1) m x1 q ar (gl t q g) (dp + 1) sC hT1 (by omega) hK hP hpt.1 (by omega) (by omega) (by omega)
              refine ⟨r1, s1, q1, head _ ?_, e2, by omega, e4, e5, e6, ?_⟩
              · rw [kcg.1, Option.bind_some]
                simp only []
                rw [if_pos (by rw [c4]; rfl), kcg.2.1, Option.bind_some]
                simp only []
                rw [e1, Option.bind_some]
                exact mI_if r1 s1
              · refine ref_un e8 hu (k := 73) b2 (mI_ne2 _) (fun sM a => sg sM a 0) (fun sM a ha hKM => sg_pre sM a ha hKM) (fun sM a b x hKM hrow hx => ?_) (fun S a b hrow => ans_I1 hrow (by decide) (by omega)) (by omega) (by omega) (by omega) (fun S hS => hS)
                have km := kindM hKM.1 hKM.2.1 hw hg
                rw [ans_I0 hrow (by omega), km.1, if_pos (by rw [c4]; rfl), hkm hKM (by decide) (by decide), b5, km.2.1]
                exact hx
            · have n4 : ¬ nI (gk t q g) = (4 : Int32) := fun e => c4 (nI_inj (b := 4) (by omega) (by omega) e)
              refine noT sC q (head _ ?_) (Gq.rf q) (by omega) hK hP (FKC.rf _ _) ?_
              · rw [kcg.1, Option.bind_some]
                simp only []
                rw [if_neg n4]
              · refine ref1 (by omega) (by decide) hu (k := 73) b2 (fun sM a b hKM hrow => ?_)
                have km := kindM hKM.1 hKM.2.1 hw hg
                rw [ans_I0 hrow (by omega), km.1, if_neg n4]
          · -- 74
            have head : ∀ z, ((f_X0_kindOf n sC (nI g)).bind fun q220 => (if q220.1 = (4 : Int32) then ((f_X0_secondOf n q220.2 (nI g)).bind fun q232 => ((rG q232.2 (nI i1) q232.1 (nI m) (nI (dp + 1))).bind fun q240 => (if q240.1 = 0 then (some ((0 : Int32), q240.2)) else (some ((1 : Int32), q240.2))))) else (some ((0 : Int32), q220.2)))) = some z → g_X0_isProof n rG rF sC (nI i) (nI g) (nI m) (nI dp) = some z := by
              intro z hz
              unfold g_X0_isProof
              rw [if_neg (nI_nneg (by omega)), if_pos d40, tp.1, Option.bind_some]
              simp only []
              rw [tp.2.1, Option.bind_some]
              simp only []
              rw [tp.2.2.2.1, Option.bind_some]
              simp only []
              rw [k7, k8, if_neg (by decide), if_neg (by decide), if_pos (by decide), nI_1]
              exact hz
            by_cases c4 : gk t q g = 4
            · have hpt := hg.parts hw hP.1 (by omega)
              obtain ⟨r1, s1, q1, e1, e2, e3, e4, e5, e6, e8⟩ := ihG i1 (u + 1) m x1 q ar (gr t q g) (dp + 1) sC hT1 (by omega) hK hP hpt.2.1 (by omega) (by omega) (by omega)
              refine ⟨r1, s1, q1, head _ ?_, e2, by omega, e4, e5, e6, ?_⟩
              · rw [kcg.1, Option.bind_some]
                simp only []
                rw [if_pos (by rw [c4]; rfl), kcg.2.2, Option.bind_some]
                simp only []
                rw [e1, Option.bind_some]
                exact mI_if r1 s1
              · refine ref_un e8 hu (k := 74) b2 (mI_ne2 _) (fun sM a => sg sM a 0) (fun sM a ha hKM => sg_pre sM a ha hKM) (fun sM a b x hKM hrow hx => ?_) (fun S a b hrow => ans_I1 hrow (by decide) (by omega)) (by omega) (by omega) (by omega) (fun S hS => hS)
                have km := kindM hKM.1 hKM.2.1 hw hg
                rw [ans_J0 hrow (by omega), km.1, if_pos (by rw [c4]; rfl), hkm hKM (by decide) (by decide), b5, km.2.2]
                exact hx
            · have n4 : ¬ nI (gk t q g) = (4 : Int32) := fun e => c4 (nI_inj (b := 4) (by omega) (by omega) e)
              refine noT sC q (head _ ?_) (Gq.rf q) (by omega) hK hP (FKC.rf _ _) ?_
              · rw [kcg.1, Option.bind_some]
                simp only []
                rw [if_neg n4]
              · refine ref1 (by omega) (by decide) hu (k := 74) b2 (fun sM a b hKM hrow => ?_)
                have km := kindM hKM.1 hKM.2.1 hw hg
                rw [ans_J0 hrow (by omega), km.1, if_neg n4]
          · -- anything
            obtain ⟨r1, s1, q1, e1, e2, e3, e4, e5, e6, e8⟩ := ihG i1 (u + 1) m x1 q ar 0 (dp + 1) sC hT1 (by omega) hK hP (Or.inl (by omega)) (by omega) (by omega) (by omega)
            refine ⟨r1, s1, q1, ?_, e2, by omega, e4, e5, e6, ?_⟩
            · show g_X0_isProof n rG rF sC (nI i) (nI g) (nI m) (nI dp) = _
              unfold g_X0_isProof
              rw [if_neg (nI_nneg (by omega)), if_pos d40, tp.1, Option.bind_some]
              simp only []
              rw [tp.2.1, Option.bind_some]
              simp only []
              rw [tp.2.2.2.1, Option.bind_some]
              simp only []
              rw [k7, k8, if_neg (by decide), if_neg (by decide), if_neg (by decide), if_neg (by decide), if_neg (by decide), if_pos (by decide), nI_1, show (rG sC (nI i1) 0 (nI m) (nI (dp + 1))) = some (mI r1, s1) from e1, Option.bind_some]
              simp only []
              rw [if_pos (show isZ (mI r1) = true by cases r1 <;> rfl)]
            · refine ref_un e8 hu (k := 88) b2 (mI_ne2 _) (fun sM a => sg sM a 0) (fun sM a ha hKM => sg_pre sM a ha hKM) (fun sM a b x hKM hrow hx => ?_) (fun S a b hrow => ans_I1 hrow (by decide) (by omega)) (by omega) (by omega) (by omega) (fun S hS => hS)
              rw [ans_X0 hrow (by omega), hkm hKM (by decide) (by decide), b5]
              exact hx
/-- the checker, by the depth of the terms -/
theorem simAll {n : Nat} (hn : 100000 ≤ n) {t : FT} {vn : Nat} (hw : WFt t vn) {sC0 sM0 : StT} {N : Nat} (hN0 : sC0.1 8 = nI N) (hN3 : N ≤ 3000) : ∀ h, (∀ d, 2 * h ≤ d → SimG n t sC0 sM0 N h (rec_CK n d).1) ∧ (∀ d, 2 * h ≤ d + 1 → SimF n t sC0 sM0 N h (rec_CK n d).2) := by
  intro h
  induction h with
  | zero =>
    refine ⟨fun d _ => ?_, fun d _ => ?_⟩
    · intro i u m e q ar g dp sC hT; exact hT.elim
    · intro i u m e q ar dp sC hT; exact hT.elim
  | succ h ih =>
    have hF : ∀ d, 2 * (h + 1) ≤ d + 1 → SimF n t sC0 sM0 N (h + 1) (rec_CK n d).2 := by
      intro d hd
      obtain ⟨d, rfl⟩ : ∃ z, d = z + 1 := ⟨d - 1, by omega⟩
      exact simF hn hw hN0 hN3 (ih.1 d (by omega)) (ih.2 d (by omega))
    refine ⟨fun d hd => ?_, hF⟩
    obtain ⟨d, rfl⟩ : ∃ z, d = z + 1 := ⟨d - 1, by omega⟩
    obtain ⟨d', hd'⟩ : ∃ z, d = z + 1 := ⟨d - 1, by omega⟩
    exact simG hn hw hN0 hN3 (ih.1 d (by omega)) (ih.2 d (by omega)) (hF d (by omega)) ⟨(rec_CK n d').1, (rec_CK n d').2, fun s x1 x2 x3 => by rw [hd']; rfl⟩
