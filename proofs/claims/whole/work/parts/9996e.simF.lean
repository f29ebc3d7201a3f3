/-! ===== what a term has: both sides ===== -/
theorem KC.join {sC0 : StT} {t q q' : FT} {ar : Nat → Nat} {m : Nat} {s s' : StT} (h : KC sC0 t q ar m s) (h1 : CF1 s' q') (hF : ∀ j, j ≠ 25 → s'.1 j = s.1 j) (hA : ∀ j, (j < 35 ∨ 39 < j) → s'.2.1 j = s.2.1 j) : KC sC0 t q' ar m s' := by
  obtain ⟨a1, a2, a3, a4, a5⟩ := h
  refine ⟨?_, h1, fun i hi => by rw [hA 40 (by decide)]; exact a3 i hi, by rw [hF 8 (by decide)]; exact a4, fun j x y => by rw [hA j (by omega)]; exact a5 j x y⟩
  unfold CFt CFF0 at a1 ⊢
  rw [hF 6 (by decide), hA 2 (by decide), hA 3 (by decide), hA 4 (by decide), hA 5 (by decide), hA 6 (by decide)]
  exact a1
theorem KM.join {sM0 : StT} {t q q' : FT} {vn : Nat} {ar : Nat → Nat} {m : Nat} {s s' : StT} (h : KM sM0 t q ar m s) (hw : WFt t vn) (h1 : OTM s' q') (hF : ∀ j, j ≠ 1 → s'.1 j = s.1 j) (hA : ∀ j, 2 < j → s'.2.1 j = s.2.1 j) (hB : ∀ j r, j < 3 → r < 2000 → s'.2.1 j r = s.2.1 j r) : KM sM0 t q' ar m s' := by
  obtain ⟨a1, a2, a3, a4⟩ := h
  have := hw.2.1
  refine ⟨⟨by rw [hF 0 (by decide)]; exact a1.1, fun f hf => ?_⟩, h1, fun i hi => by rw [hA 48 (by decide)]; exact a3 i hi, fun j x y => by rw [hA j (by omega)]; exact a4 j x y⟩
  rw [hB 0 f (by decide) (by omega), hB 1 f (by decide) (by omega), hB 2 f (by decide) (by omega)]
  exact a1.2 f hf
theorem FKM.join {m a : Nat} {s s' : StT} (hF : ∀ j, j ≠ 1 → s'.1 j = s.1 j) (hA : ∀ j, 2 < j → s'.2.1 j = s.2.1 j) (hB : ∀ j r, j < 3 → r < 2000 → s'.2.1 j r = s.2.1 j r) (hL : s'.2.2 = s.2.2) : FKM m a s s' := ⟨fun j h _ => hF j h, fun j h _ => hA j h, hB, fun i _ => by rw [hA 48 (by decide)], fun j r h _ _ => by rw [hA j (by omega)], hL⟩
def SimG (n : Nat) (t : FT) (sC0 sM0 : StT) (N h : Nat) (cl : StT → Int32 → Int32 → Int32 → Int32 → Option (Int32 × StT)) : Prop := ∀ (i u m e : Nat) (q : FT) (ar : Nat → Nat) (g dp : Nat) (sC : StT), TR sC0 sM0 t.1 h i u m e → i < N → KC sC0 t q ar m sC → PV t q ar m → vld t q g → h + dp ≤ 41 → m + h ≤ 61 → q.1 + (e - u) ≤ 1600 → ∃ (r : Bool) (sC' : StT) (q' : FT), cl sC (nI i) (nI g) (nI m) (nI dp) = some (mI r, sC') ∧ Gq q q' ∧ q'.1 ≤ q.1 + (e - u) ∧ KC sC0 t q' ar m sC' ∧ PV t q' ar m ∧ FKC m sC sC' ∧ RefA n sM0 t q q' ar m u (2 * h) (8 * (e - u)) (nI g) (mI r) (r = true)
def SimF (n : Nat) (t : FT) (sC0 sM0 : StT) (N h : Nat) (cl : StT → Int32 → Int32 → Int32 → Option (Int32 × StT)) : Prop := ∀ (i u m e : Nat) (q : FT) (ar : Nat → Nat) (dp : Nat) (sC : StT), TR sC0 sM0 t.1 h i u m e → i < N → KC sC0 t q ar m sC → PV t q ar m → h + dp ≤ 41 → m + h ≤ 61 → q.1 + (e - u) ≤ 1600 → ∃ (r : Option Nat) (sC' : StT) (q' : FT), cl sC (nI i) (nI m) (nI dp) = some (oI r, sC') ∧ Gq q q' ∧ q'.1 ≤ q.1 + (e - u) ∧ KC sC0 t q' ar m sC' ∧ PV t q' ar m ∧ FKC m sC sC' ∧ (∀ f, r = some f → vld t q' f) ∧ RefA n sM0 t q q' ar m u (2 * h - 1) (8 * (e - u) - 4) (-1) (oI r) (∃ f, r = some f)
/-- one answer and the row is gone -/
theorem ref1 {n : Nat} {sM0 : StT} {t q : FT} {ar : Nat → Nat} {m u h c k : Nat} {G r : Int32} {ok : Prop} (hc : 1 ≤ c) (hr : r ≠ -2) (hu : u < 1600) (hk : sM0.2.1 40 u = nI k) (ha : ∀ (sM : StT) (a : Nat) (b : Int32), KM sM0 t q ar m sM → Row sM a u G 0 k → f_X12_answered n sM (nI a) b = some (r, sg sM a 0)) : RefA n sM0 t q q ar m u h c G r ok := by
  intro sM a b fo hK h35 h49 h50 h51 hb hfo
  obtain ⟨fo, rfl⟩ : ∃ z, fo = z + 1 := ⟨fo - 1, by omega⟩
  have hrow : Row sM a u G 0 k := ⟨by omega, hu, h49, h50, h51, by rw [hK.2.2.2 40 (by decide) (by decide)]; exact hk⟩
  exact ⟨uF (sg sM a 0) 35 (nI a), fo, by omega, rfl, (FKM.sg _ (Nat.le_refl _) (by omega)).tr (FKM.f35 _ _ _ _), fun _ => (hK.sg _ _).f35 _, fun res hR => run_ret h35 (by omega) (ha sM a b hK hrow) hr hR⟩
theorem clsH {n : Nat} {rG : StT → Int32 → Int32 → Int32 → Int32 → Option (Int32 × StT)} {rF : StT → Int32 → Int32 → Int32 → Option (Int32 × StT)} {s : StT} {N i m dp v : Nat} (hN : s.1 8 = nI N) (hN3 : N ≤ 3000) (hi : i < N) (hdp : dp ≤ 40) (k7 : s.2.1 7 i = 104) (k8 : s.2.1 8 i = nI v) (hv : v < m) (hm : m ≤ 60) : g_X0_formulaOf n rG rF s (nI i) (nI m) (nI dp) = some (s.2.1 40 v, s) := by
  have tp := t0P (n := n) hN hN3 hi
  unfold g_X0_formulaOf
  rw [if_pos (show nI dp ≤ (40 : Int32) from (nI_leI (b := 40) (by omega) (by omega)).mpr hdp), tp.1, Option.bind_some]
  simp only []
  rw [tp.2.2.2.1, Option.bind_some]
  simp only []
  rw [k7, if_neg (by decide), if_neg (by decide), if_neg (by decide), if_neg (by decide), if_neg (by decide), if_neg (by decide), if_pos rfl, k8]
  unfold f_X0_hypothesis
  rw [if_neg (nI_nneg (by omega)), if_neg (fun e => absurd ((nI_leI (by omega) (by omega)).mp e) (by omega)), if_neg (show ¬ (60 : Int32) ≤ nI v from fun e => absurd ((nI_leI (a := 60) (by omega) (by omega)).mp e) (by omega)), inB_nI (show v < 60 by omega) (by omega), if_pos rfl, nI_cl (by omega), Option.bind_some]
theorem clsT {n : Nat} {rG : StT → Int32 → Int32 → Int32 → Int32 → Option (Int32 × StT)} {rF : StT → Int32 → Int32 → Int32 → Option (Int32 × StT)} {s : StT} {N i dp : Nat} {x : Int32} (hN : s.1 8 = nI N) (hN3 : N ≤ 3000) (hi : i < N) (hdp : dp ≤ 40) (k7 : s.2.1 7 i = 84) : g_X0_formulaOf n rG rF s (nI i) x (nI dp) = some (1, s) := by
  have tp := t0P (n := n) hN hN3 hi
  unfold g_X0_formulaOf
  rw [if_pos (show nI dp ≤ (40 : Int32) from (nI_leI (b := 40) (by omega) (by omega)).mpr hdp), tp.1, Option.bind_some]
  simp only []
  rw [tp.2.2.2.1, Option.bind_some]
  simp only []
  rw [k7, if_neg (by decide), if_neg (by decide), if_neg (by decide), if_neg (by decide), if_neg (by decide), if_pos rfl]
theorem oI_ne2 {r : Option Nat} (h : ∀ f, r = some f → f < 2 ^ 31) : oI r ≠ -2 := by
  cases r with
  | none => decide
  | some f => exact fun e => nI_nneg (h f rfl) (by rw [show oI (some f) = nI f from rfl] at e; rw [e]; decide)
theorem simF {n : Nat} (hn : 100000 ≤ n) {t : FT} {vn : Nat} (hw : WFt t vn) {sC0 sM0 : StT} {N h : Nat} (hN0 : sC0.1 8 = nI N) (hN3 : N ≤ 3000) {rG : StT → Int32 → Int32 → Int32 → Int32 → Option (Int32 × StT)} {rF : StT → Int32 → Int32 → Int32 → Option (Int32 × StT)} (ihG : SimG n t sC0 sM0 N h rG) (ihF : SimF n t sC0 sM0 N h rF) : SimF n t sC0 sM0 N (h + 1) (fun st x1 x2 x3 => g_X0_formulaOf n rG rF st x1 x2 x3) := by
  intro i u m e q ar dp sC hT hi hK hP hdp hm hq
  obtain ⟨a1, a2, a3, a4, a5, a6⟩ := hT
  have hu : u < 1600 := by omega
  have hN : sC.1 8 = nI N := by rw [hK.2.2.2.1]; exact hN0
  have tp := t0P (n := n) hN hN3 hi
  have d40 : nI dp ≤ (40 : Int32) := (nI_leI (b := 40) (by omega) (by omega)).mpr (by omega)
  have c7 : sC.2.1 7 i = sC0.2.1 7 i := by rw [hK.2.2.2.2 7 (by decide) (by decide)]
  have c8 : sC.2.1 8 i = sC0.2.1 8 i := by rw [hK.2.2.2.2 8 (by decide) (by decide)]
  have c9 : sC.2.1 9 i = sC0.2.1 9 i := by rw [hK.2.2.2.2 9 (by decide) (by decide)]
  have hw2 := hw.2.1
  have h0t : 2 ≤ t.1 := hw.1
  have hkm : ∀ {q : FT} {ar : Nat → Nat} {m : Nat} {s : StT} {j : Nat}, KM sM0 t q ar m s → 39 < j → j < 45 → s.2.1 j u = sM0.2.1 j u := fun hk x y => by rw [hk.2.2.2 _ x y]
  rcases a6 with ⟨b1, b2, b3, v, b4, b5, b6⟩ | ⟨b1, b2, b3⟩ | ⟨k, i1, x1, hk, b1, b2, b3, b4, b5, hT1, b7⟩
  · refine ⟨some (ar v), sC, q, ?_, Gq.rf q, by omega, hK, hP, FKC.rf _ _, fun f hf => ?_, ?_⟩
    · rw [show oI (some (ar v)) = nI (ar v) from rfl, ← hK.2.2.1 v b4]
      exact clsH hN hN3 hi (by omega) (by rw [c7]; exact b1) (by rw [c8]; exact b5) b4 (by omega)
    · rw [← Option.some.inj hf]; exact hP.2 v b4
    · have hvb := (hP.2 v b4).bd hw hP.1
      refine ref1 (by omega) (oI_ne2 (fun f hf => by rw [← Option.some.inj hf]; omega)) hu (k := 72) (by rw [b2]; rfl) (fun sM a b hKM hrow => ?_)
      rw [ans_has hrow, has_H hu (v := v) (by omega) (by rw [sg_A 42 (by decide), hkm hKM (by decide) (by decide)]; exact b6), sg_A 48 (by decide), hKM.2.2.1 v b4]
      rfl
  · refine ⟨some 1, sC, q, ?_, Gq.rf q, by omega, hK, hP, FKC.rf _ _, fun f hf => ?_, ?_⟩
    · exact clsT hN hN3 hi (by omega) (by rw [c7]; exact b1)
    · rw [← Option.some.inj hf]; exact Or.inl (by omega)
    · refine ref1 (by omega) (by decide) hu (k := 84) (by rw [b2]; rfl) (fun sM a b hKM hrow => ?_)
      rw [ans_has hrow, has_T]
      rfl
  · have k7 : sC.2.1 7 i = nI k := by rw [c7]; exact b1
    have k8 : sC.2.1 8 i = nI i1 := by rw [c8]; exact b4
    have hlt1 := hT1.lt
    have hh1 : 1 ≤ h := by
      rcases Nat.eq_zero_or_pos h with z | z
      · rw [z] at hT1; exact hT1.elim
      · exact z
    have hhead : ∀ z, (if nI k = 65 then ((rF sC (nI i1) (nI m) (nI (dp + 1))).bind fun q190 => ((f_X0_kindOf n q190.2 q190.1).bind fun q198 => (if q198.1 = (5 : Int32) then ((f_X7_partOf_T0 n q198.2 (nI i) (1 : Int32)).bind fun q212 => ((f_X0_firstOf n q212.2 q190.1).bind fun q218 => ((rG q218.2 q212.1 q218.1 (nI m) (nI (dp + 1))).bind fun q225 => (if q225.1 = 0 then (some ((-1 : Int32), q225.2)) else ((f_X0_secondOf n q225.2 q190.1).bind fun q234 => (some (q234.1, q234.2))))))) else (some ((-1 : Int32), q198.2))))) else (if nI k = 70 then ((rF sC (nI i1) (nI m) (nI (dp + 1))).bind fun q249 => ((f_X0_kindOf n q249.2 q249.1).bind fun q257 => (if q257.1 = (3 : Int32) then ((f_X0_firstOf n q257.2 q249.1).bind fun q267 => (some (q267.1, q267.2))) else (some ((-1 : Int32), q257.2))))) else (if nI k = 76 then ((f_X7_formulaOf_T0 n sC (nI i)).bind fun q107 => ((f_X0_binds n q107.2 q107.1 (nI m)).bind fun q116 => (if q116.1 = 0 then (some ((-1 : Int32), q116.2)) else ((rF q116.2 (nI i1) (nI (m + 1)) (nI (dp + 1))).bind fun q135 => ((f_X0_joined n q135.2 (5 : Int32) q107.1 q135.1).bind fun q138 => (some (q138.1, q138.2))))))) else (if nI k = 80 then ((rF sC (nI i1) (nI m) (nI (dp + 1))).bind fun q153 => ((f_X7_partOf_T0 n q153.2 (nI i) (1 : Int32)).bind fun q169 => ((rF q169.2 q169.1 (nI m) (nI (dp + 1))).bind fun q176 => ((f_X0_joined n q176.2 (3 : Int32) q153.1 q176.1).bind fun q179 => (some (q179.1, q179.2)))))) else (if nI k = 83 then ((rF sC (nI i1) (nI m) (nI (dp + 1))).bind fun q282 => ((f_X0_kindOf n q282.2 q282.1).bind fun q290 => (if q290.1 = (3 : Int32) then ((f_X0_secondOf n q290.2 q282.1).bind fun q300 => (some (q300.1, q300.2))) else (some ((-1 : Int32), q290.2))))) else (if nI k = 84 then (some ((1 : Int32), sC)) else (if nI k = 104 then ((f_X0_hypothesis n sC (nI i1) (nI m)).bind fun q96 => (some (q96.1, q96.2))) else (some ((-1 : Int32), sC))))))))) = some z → g_X0_formulaOf n rG rF sC (nI i) (nI m) (nI dp) = some z := by
      intro z hz
      unfold g_X0_formulaOf
      rw [if_pos d40, tp.1, Option.bind_some]
      simp only []
      rw [tp.2.2.2.1, Option.bind_some]
      simp only []
      rw [k7, k8, nI_1, nI_1]
      exact hz
    have hkc : ∀ (q1 : FT) (s : StT), KC sC0 t q1 ar m s → f_X7_partOf_T0 n s (nI i) 1 = some (sC0.2.1 9 i, s) := fun q1 s hk1 => by
      rw [(t0P (n := n) (s := s) (by rw [hk1.2.2.2.1]; exact hN0) hN3 hi).2.1, hk1.2.2.2.2 9 (by decide) (by decide)]
    have noTail : ∀ (s' : StT) (q' : FT), g_X0_formulaOf n rG rF sC (nI i) (nI m) (nI dp) = some (-1, s') → Gq q q' → q'.1 ≤ q.1 + (e - u) → KC sC0 t q' ar m s' → PV t q' ar m → FKC m sC s' → RefA n sM0 t q q' ar m u (2 * (h + 1) - 1) (8 * (e - u) - 4) (-1) (-1) False → ∃ (r : Option Nat) (sC' : StT) (q' : FT), (fun st x1 x2 x3 => g_X0_formulaOf n rG rF st x1 x2 x3) sC (nI i) (nI m) (nI dp) = some (oI r, sC') ∧ Gq q q' ∧ q'.1 ≤ q.1 + (e - u) ∧ KC sC0 t q' ar m sC' ∧ PV t q' ar m ∧ FKC m sC sC' ∧ (∀ f, r = some f → vld t q' f) ∧ RefA n sM0 t q q' ar m u (2 * (h + 1) - 1) (8 * (e - u) - 4) (-1) (oI r) (∃ f, r = some f) := fun s' q' p1 p2 p3 p4 p5 p6 p7 => ⟨none, s', q', p1, p2, p3, p4, p5, p6, fun f hf => (by cases hf), fun sM a b fo y1 y2 y3 y4 y5 y6 y7 => by
      obtain ⟨w1, w2, w3, w4, w5, w6, w7⟩ := p7 sM a b fo y1 y2 y3 y4 y5 y6 y7
      exact ⟨w1, w2, w3, w4, w5, fun hx => (by obtain ⟨f, hf⟩ := hx; cases hf), w7⟩⟩
    simp only [LTR, List.mem_cons, List.not_mem_nil, or_false] at hk
    rcases hk with rfl | rfl | rfl | rfl | rfl | hk
    · -- a function
      rw [show m + lam 76 = m + 1 from rfl] at hT1
      replace b7 : x1 = e ∧ ∃ f, f < t.1 ∧ sC0.2.1 9 i = nI f ∧ sM0.2.1 44 u = nI f := by
        rcases b7 with ⟨_, c2, c3⟩ | ⟨c1, _⟩
        · exact ⟨c2, c3 rfl⟩
        · exact absurd c1 (by decide)
      obtain ⟨rfl, f, hf, f9, f44⟩ := b7
      have hvf : vld t q f := Or.inl hf
      obtain ⟨r1, s1, q1, e1, e2, e3, e4, e5, e6, e7, e8⟩ := ihF i1 (u + 1) (m + 1) x1 q (updN ar m f) (dp + 1) (uA sC 40 (nI m) (nI f)) hT1 (by omega) (hK.bind (by omega)) (hP.bind hvf) (by omega) (by omega) (by omega)
      have cl1 : ∀ z, f_X0_joined n s1 5 (nI f) (oI r1) = some z → g_X0_formulaOf n rG rF sC (nI i) (nI m) (nI dp) = some z := by
        intro z hz
        refine hhead z ?_
        rw [if_neg (by decide), if_neg (by decide), if_pos (by decide), tp.2.2.2.2, Option.bind_some]
        simp only []
        rw [c9, f9, binds_e (by omega), Option.bind_some]
        simp only []
        rw [if_neg (by decide), e1, Option.bind_some]
        simp only []
        rw [hz, Option.bind_some]
      have fk1 : FKC m sC s1 := (FKC.bd sC (nI f) (by omega)).tr (e6.lo (by omega))
      have pre : ∀ (sM : StT) (a : Nat) (b : Int32) (fo : Nat), KM sM0 t q ar m sM → sM.1 35 = nI (a + 1) → sM.2.1 49 a = nI u → sM.2.1 50 a = -1 → sM.2.1 51 a = nI 0 → a + (2 * (h + 1) - 1) < 2990 → 8 * (x1 - u) - 4 ≤ fo + 1 → ∃ S1 fo1, fo ≤ fo1 + (8 * (x1 - (u + 1)) - 4) ∧ S1.1 35 = nI (a + 1) ∧ FKM m a sM S1 ∧ ((∃ f, r1 = some f) → KM sM0 t q1 (updN ar m f) (m + 1) S1) ∧ Row S1 a u (-1) 1 76 ∧ ∀ res, RUN n fo1 S1 (oI r1) res → RUN n (fo + 1) sM b res := by
        intro sM a b fo hKM h35 h49 h50 h51 hb hfo
        have hrow : Row sM a u (-1) 0 76 := ⟨by omega, hu, h49, h50, h51, by rw [hkm hKM (by decide) (by decide)]; exact b2⟩
        have hS : KM sM0 t q (updN ar m f) (m + 1) (uA (sg sM a 0) 48 (nI m) (nI f)) := (hKM.sg a 0).bind (by omega)
        obtain ⟨S1, fo1, w1, w2, w3, w4, w5, w6⟩ := call e8 hS (a := a) h35 (by omega) (fo := fo) (by omega)
        have fS : FKM m a sM (uA (sg sM a 0) 48 (nI m) (nI f)) := (FKM.sg _ (Nat.le_refl _) (by omega)).tr (FKM.ar _ 48 _ (Or.inl ⟨rfl, Nat.le_refl _⟩) (by omega))
        refine ⟨S1, fo1, w1, w2, fS.tr (w3.lo (by omega) (by omega)), w4, ?_, fun res hR => run_ask h35 (by omega) ?_ (w6 res hR)⟩
        · refine row_after w3 (by omega) hu ?_ ?_ ?_ ?_
          · simp only [uA_21, if_neg (show ¬ (49 : Nat) = 48 by decide)]; rw [sg_A 49 (by decide)]; exact h49
          · simp only [uA_21, if_neg (show ¬ (50 : Nat) = 48 by decide)]; rw [sg_A 50 (by decide)]; exact h50
          · simp only [uA_21, if_neg (show ¬ (51 : Nat) = 48 by decide)]; exact sg_51 (by omega)
          · simp only [uA_21, if_neg (show ¬ (40 : Nat) = 48 by decide)]; rw [sg_A 40 (by decide)]; exact hrow.2.2.2.2.2
        · rw [ans_has hrow, has_L0 hu (m := m) (by omega) (by rw [sg_A 41 (by decide), hkm hKM (by decide) (by decide)]; exact a5), sg_A 44 (by decide), sg_A 42 (by decide), hkm hKM (by decide) (by decide), hkm hKM (by decide) (by decide), f44, b5]
          exact w5
      cases r1 with
      | none =>
        refine noTail s1 q1 (cl1 _ (joinC_neg n s1 5 (nI f) (-1) (Or.inr rfl) (Or.inr ⟨f, by omega, rfl⟩))) e2 (by omega) e4.lo e5.lo fk1 ?_
        intro sM a b fo hKM h35 h49 h50 h51 hb hfo
        obtain ⟨fo, rfl⟩ : ∃ z, fo = z + 1 := ⟨fo - 1, by omega⟩
        obtain ⟨S1, fo1, w1, w2, w3, w4, w5, w6⟩ := pre sM a b fo hKM h35 h49 h50 h51 hb hfo
        obtain ⟨fo1, rfl⟩ : ∃ z, fo1 = z + 1 := ⟨fo1 - 1, by omega⟩
        exact ⟨uF (sg S1 a 1) 35 (nI a), fo1, by omega, rfl, (w3.tr (FKM.sg _ (Nat.le_refl _) (by omega))).tr (FKM.f35 _ _ _ _), fun x => x.elim, fun res hR => w6 res (run_ret w2 (by omega) (by rw [ans_has w5]; exact has_neg (by decide) (by decide)) (by decide) hR)⟩
      | some f1 =>
        have hv1 := e7 f1 rfl
        have hb1 := hv1.bd hw e5.1
        have hq1 : q1.1 < 1600 := by omega
        have hvf1 : vld t q1 f := hvf.up e2
        obtain ⟨s2, j1, j2, j3, j4, j5⟩ := joinCK hn e4.1 e4.2.1 hw e5.1 (Or.inr rfl) hvf1 hv1 hq1
        have jo := jq_ow hw e5.1 (k := 5) (Or.inr rfl) hvf1 hv1 hq1
        have hvr := jo.2.2.1
        have hbr := hvr.bd hw jo.1
        refine ⟨some (jq t q1 5 f f1).1, s2, (jq t q1 5 f f1).2, cl1 _ j1, e2.tr jo.2.1, by omega, e4.lo.join j2 j3 j4, ⟨jo.1, fun i hi => (e5.lo.2 i hi).up jo.2.1⟩, fk1.tr ⟨j3, fun j hj => j4 j (by omega), fun i _ => by rw [j4 40 (by decide)], j5⟩, fun z hz => by rw [← Option.some.inj hz]; exact hvr, ?_⟩
        intro sM a b fo hKM h35 h49 h50 h51 hb hfo
        obtain ⟨fo, rfl⟩ : ∃ z, fo = z + 1 := ⟨fo - 1, by omega⟩
        obtain ⟨S1, fo1, w1, w2, w3, w4, w5, w6⟩ := pre sM a b fo hKM h35 h49 h50 h51 hb hfo
        obtain ⟨fo1, rfl⟩ : ∃ z, fo1 = z + 1 := ⟨fo1 - 1, by omega⟩
        have kS := (w4 ⟨f1, rfl⟩).lo
        obtain ⟨S2, l1, l2, l3, l4, l5, l6⟩ := joinMK hn (kS.sg a 1).1 (kS.sg a 1).2.1 hw e5.1 (k := 5) (Or.inr rfl) hvf1 hv1 hq1
        refine ⟨uF S2 35 (nI a), fo1, by omega, rfl, ((w3.tr (FKM.sg _ (Nat.le_refl _) (by omega))).tr (FKM.join l3 l4 l5 l6)).tr (FKM.f35 _ _ _ _), fun _ => ((kS.sg a 1).join hw l2 l3 l4 l5).f35 _, fun res hR => w6 res (run_ret w2 (by omega) ?_ (oI_ne2 (r := some (jq t q1 5 f f1).1) (fun z hz => by rw [← Option.some.inj hz]; omega)) hR)⟩
        rw [ans_has w5, show oI (some f1) = nI f1 from rfl, has_L1 hu (by omega), sg_A 44 (by decide), hkm kS (by decide) (by decide), f44]
        exact l1
    · -- an application
      rw [show m + lam 65 = m from rfl] at hT1
      replace b7 : ∃ i2, i2 < i ∧ sC0.2.1 9 i = nI i2 ∧ sM0.2.1 43 u = nI x1 ∧ TR sC0 sM0 t.1 h i2 x1 m e := by
        rcases b7 with ⟨c1, _⟩ | ⟨_, i2, x2, c2, c3, c4, c5, c6⟩
        · exact absurd c1 (by decide)
        · rcases c6 with ⟨_, rfl⟩ | ⟨c6, _⟩
          · exact ⟨i2, c2, c3, c4, c5⟩
          · exact absurd c6 (by decide)
      obtain ⟨i2, hi2, f9, f43, hT2⟩ := b7
      have hlt2 := hT2.lt
      obtain ⟨r1, s1, q1, e1, e2, e3, e4, e5, e6, e7, e8⟩ := ihF i1 (u + 1) m x1 q ar (dp + 1) sC hT1 (by omega) hK hP (by omega) (by omega) (by omega)
      have pre : ∀ (sM : StT) (a : Nat) (b : Int32) (fo : Nat), KM sM0 t q ar m sM → sM.1 35 = nI (a + 1) → sM.2.1 49 a = nI u → sM.2.1 50 a = -1 → sM.2.1 51 a = nI 0 → a + (2 * (h + 1) - 1) < 2990 → 8 * (e - u) - 4 ≤ fo + 1 → ∃ S1 fo1, fo ≤ fo1 + (8 * (x1 - (u + 1)) - 4) ∧ S1.1 35 = nI (a + 1) ∧ FKM m a sM S1 ∧ ((∃ f, r1 = some f) → KM sM0 t q1 ar m S1) ∧ Row S1 a u (-1) 1 65 ∧ ∀ res, RUN n fo1 S1 (oI r1) res → RUN n (fo + 1) sM b res := by
        intro sM a b fo hKM h35 h49 h50 h51 hb hfo
        have hrow : Row sM a u (-1) 0 65 := ⟨by omega, hu, h49, h50, h51, by rw [hkm hKM (by decide) (by decide)]; exact b2⟩
        obtain ⟨S1, fo1, w1, w2, w3, w4, w5, w6⟩ := call e8 (hKM.sg a 0) (a := a) h35 (by omega) (fo := fo) (by omega)
        refine ⟨S1, fo1, w1, w2, (FKM.sg _ (Nat.le_refl _) (by omega)).tr (w3.lo (by omega) (by omega)), w4, ?_, fun res hR => run_ask h35 (by omega) ?_ (w6 res hR)⟩
        · exact row_after w3 (by omega) hu (by rw [sg_A 49 (by decide)]; exact h49) (by rw [sg_A 50 (by decide)]; exact h50) (sg_51 (by omega)) (by rw [sg_A 40 (by decide)]; exact hrow.2.2.2.2.2)
        · rw [ans_has hrow, has_A0 hu, sg_A 42 (by decide), hkm hKM (by decide) (by decide), b5]
          exact w5
      cases r1 with
      | none =>
        refine noTail s1 q1 (hhead _ ?_) e2 (by omega) e4 e5 e6 ?_
        · rw [if_pos (by decide), e1, Option.bind_some]
          simp only []
          rw [show oI none = -1 from rfl, kindC_m1, Option.bind_some]
          simp only []
          rw [if_neg (by decide)]
        · intro sM a b fo hKM h35 h49 h50 h51 hb hfo
          obtain ⟨fo, rfl⟩ : ∃ z, fo = z + 1 := ⟨fo - 1, by omega⟩
          obtain ⟨S1, fo1, w1, w2, w3, w4, w5, w6⟩ := pre sM a b fo hKM h35 h49 h50 h51 hb hfo
          obtain ⟨fo1, rfl⟩ : ∃ z, fo1 = z + 1 := ⟨fo1 - 1, by omega⟩
          exact ⟨uF (sg S1 a 1) 35 (nI a), fo1, by omega, rfl, (w3.tr (FKM.sg _ (Nat.le_refl _) (by omega))).tr (FKM.f35 _ _ _ _), fun x => x.elim, fun res hR => w6 res (run_ret w2 (by omega) (by rw [ans_has w5]; exact has_neg (by decide) (by decide)) (by decide) hR)⟩
      | some f1 =>
        have hv1 := e7 f1 rfl
        have hb1 := hv1.bd hw e5.1
        have kc := kindC (n := n) e4.1 e4.2.1 hw e5.1 hv1
        have hgk : gk t q1 f1 < 10 := by
          by_cases c : 3 ≤ gk t q1 f1
          · have := (hv1.parts hw e5.1 c).2.2; omega
          · omega
        by_cases c5 : gk t q1 f1 = 5
        · have hpt := hv1.parts hw e5.1 (by omega)
          obtain ⟨r2, s2, q2, d1, d2, d3, d4, d5, d6, d8⟩ := ihG i2 x1 m e q1 ar (gl t q1 f1) (dp + 1) s1 hT2 (by omega) e4 e5 hpt.1 (by omega) (by omega) (by omega)
          have cl2 : ∀ z, (if mI r2 = 0 then (some ((-1 : Int32), s2)) else ((f_X0_secondOf n s2 (nI f1)).bind fun q234 => (some (q234.1, q234.2)))) = some z → g_X0_formulaOf n rG rF sC (nI i) (nI m) (nI dp) = some z := by
            intro z hz
            refine hhead z ?_
            rw [if_pos (by decide), e1, Option.bind_some]
            simp only []
            rw [show oI (some f1) = nI f1 from rfl, kc.1, Option.bind_some]
            simp only []
            rw [if_pos (by rw [c5]; rfl), hkc q1 s1 e4, Option.bind_some]
            simp only []
            rw [kc.2.1, Option.bind_some]
            simp only []
            rw [f9, d1, Option.bind_some]
            exact hz
          have pre2 : ∀ (sM : StT) (a : Nat) (b : Int32) (fo : Nat), KM sM0 t q ar m sM → sM.1 35 = nI (a + 1) → sM.2.1 49 a = nI u → sM.2.1 50 a = -1 → sM.2.1 51 a = nI 0 → a + (2 * (h + 1) - 1) < 2990 → 8 * (e - u) - 4 ≤ fo + 2 → ∃ S2 fo2, fo ≤ fo2 + (8 * (x1 - (u + 1)) - 4) + 8 * (e - x1) ∧ S2.1 35 = nI (a + 1) ∧ FKM m a sM S2 ∧ (r2 = true → KM sM0 t q2 ar m S2) ∧ Row S2 a u (-1) 2 65 ∧ S2.2.1 52 a = nI f1 ∧ ∀ res, RUN n fo2 S2 (mI r2) res → RUN n (fo + 2) sM b res := by
            intro sM a b fo hKM h35 h49 h50 h51 hb hfo
            obtain ⟨S1, fo1, w1, w2, w3, w4, w5, w6⟩ := pre sM a b (fo + 1) hKM h35 h49 h50 h51 hb (by omega)
            have kS := w4 ⟨f1, rfl⟩
            obtain ⟨fo1, rfl⟩ : ∃ z, fo1 = z + 1 := ⟨fo1 - 1, by omega⟩
            have km := kindM kS.1 kS.2.1 hw hv1
            obtain ⟨S2, fo2, y1, y2, y3, y4, y5, y6⟩ := call d8 ((kS.sg a 1).w52 (nI a) (nI f1)) (a := a) w2 (by omega) (fo := fo1) (by omega)
            have fS : FKM m a S1 (uA (sg S1 a 1) 52 (nI a) (nI f1)) := (FKM.sg _ (Nat.le_refl _) (by omega)).tr (FKM.ar _ 52 _ (Or.inr ⟨by decide, by decide, Nat.le_refl _⟩) (by omega))
            refine ⟨S2, fo2, by omega, y2, (w3.tr fS).tr (y3.lo (by omega) (by omega)), y4, ?_, ?_, fun res hR => w6 res (run_ask w2 (by omega) ?_ (y6 res hR))⟩
            · refine row_after y3 (by omega) hu ?_ ?_ ?_ ?_
              · simp only [uA_21, if_neg (show ¬ (49 : Nat) = 52 by decide)]; rw [sg_A 49 (by decide)]; exact w5.2.2.1
              · simp only [uA_21, if_neg (show ¬ (50 : Nat) = 52 by decide)]; rw [sg_A 50 (by decide)]; exact w5.2.2.2.1
              · simp only [uA_21, if_neg (show ¬ (51 : Nat) = 52 by decide)]; exact sg_51 (by omega)
              · simp only [uA_21, if_neg (show ¬ (40 : Nat) = 52 by decide)]; rw [sg_A 40 (by decide)]; exact w5.2.2.2.2.2
            · rw [y3.2.2.2.2.1 52 a (by decide) (by decide) (by omega)]
              simp only [uA_21, if_true, upd_j, nI_cl (show a < 2 ^ 31 by omega)]
            · rw [ans_has w5, show oI (some f1) = nI f1 from rfl, has_A1 hu (by omega) (by omega), sg_A 0 (by decide), km.1, if_pos (by rw [c5]; rfl), sg_A 43 (by decide), sg_A 1 (by decide), hkm kS (by decide) (by decide), f43, km.2.1]
              exact y5
          cases r2 with
          | false =>
            refine noTail s2 q2 (cl2 _ (by rw [if_pos (by decide)])) (e2.tr d2) (by omega) d4 d5 (e6.tr d6) ?_
            intro sM a b fo hKM h35 h49 h50 h51 hb hfo
            obtain ⟨fo, rfl⟩ : ∃ z, fo = z + 2 := ⟨fo - 2, by omega⟩
            obtain ⟨S2, fo2, w1, w2, w3, w4, w5, w7, w6⟩ := pre2 sM a b fo hKM h35 h49 h50 h51 hb hfo
            obtain ⟨fo2, rfl⟩ : ∃ z, fo2 = z + 1 := ⟨fo2 - 1, by omega⟩
            refine ⟨uF (sg S2 a 2) 35 (nI a), fo2, by omega, rfl, (w3.tr (FKM.sg _ (Nat.le_refl _) (by omega))).tr (FKM.f35 _ _ _ _), fun x => x.elim, fun res hR => w6 res (run_ret w2 (by omega) ?_ (by decide) hR)⟩
            rw [ans_has w5, has_A2 (f := f1) (by omega) (by omega) (by rw [sg_A 52 (by decide)]; exact w7), if_neg (by decide)]
          | true =>
            have kc2 := kindC (n := n) d4.1 d4.2.1 hw d5.1 (hv1.up d2)
            have hkp := hv1.keep hw d2
            have hvr : vld t q2 (gr t q1 f1) := hpt.2.1.up d2
            have hbr := hvr.bd hw d5.1
            refine ⟨some (gr t q1 f1), s2, q2, cl2 _ (by rw [if_neg (by decide), kc2.2.2, Option.bind_some, hkp.2.2]; rfl), e2.tr d2, by omega, d4, d5, e6.tr d6, fun z hz => by rw [← Option.some.inj hz]; exact hvr, ?_⟩
            intro sM a b fo hKM h35 h49 h50 h51 hb hfo
            obtain ⟨fo, rfl⟩ : ∃ z, fo = z + 2 := ⟨fo - 2, by omega⟩
            obtain ⟨S2, fo2, w1, w2, w3, w4, w5, w7, w6⟩ := pre2 sM a b fo hKM h35 h49 h50 h51 hb hfo
            obtain ⟨fo2, rfl⟩ : ∃ z, fo2 = z + 1 := ⟨fo2 - 1, by omega⟩
            have kS := w4 rfl
            have km := kindM kS.1 kS.2.1 hw (hv1.up d2)
            refine ⟨uF (sg S2 a 2) 35 (nI a), fo2, by omega, rfl, (w3.tr (FKM.sg _ (Nat.le_refl _) (by omega))).tr (FKM.f35 _ _ _ _), fun _ => (kS.sg a 2).f35 _, fun res hR => w6 res (run_ret w2 (by omega) ?_ (oI_ne2 (r := some (gr t q1 f1)) (fun z hz => by rw [← Option.some.inj hz]; omega)) hR)⟩
            rw [ans_has w5, has_A2 (f := f1) (by omega) (by omega) (by rw [sg_A 52 (by decide)]; exact w7), if_pos rfl, sg_A 2 (by decide), km.2.2, hkp.2.2]
            rfl
        · have n5 : ¬ nI (gk t q1 f1) = (5 : Int32) := fun e => c5 (nI_inj (b := 5) (by omega) (by omega) e)
          refine noTail s1 q1 (hhead _ ?_) e2 (by omega) e4 e5 e6 ?_
          · rw [if_pos (by decide), e1, Option.bind_some]
            simp only []
            rw [show oI (some f1) = nI f1 from rfl, kc.1, Option.bind_some]
            simp only []
            rw [if_neg n5]
          · intro sM a b fo hKM h35 h49 h50 h51 hb hfo
            obtain ⟨fo, rfl⟩ : ∃ z, fo = z + 1 := ⟨fo - 1, by omega⟩
            obtain ⟨S1, fo1, w1, w2, w3, w4, w5, w6⟩ := pre sM a b fo hKM h35 h49 h50 h51 hb hfo
            obtain ⟨fo1, rfl⟩ : ∃ z, fo1 = z + 1 := ⟨fo1 - 1, by omega⟩
            have kS := w4 ⟨f1, rfl⟩
            have km := kindM kS.1 kS.2.1 hw hv1
            refine ⟨uF (uA (sg S1 a 1) 52 (nI a) (nI f1)) 35 (nI a), fo1, by omega, rfl, ((w3.tr (FKM.sg _ (Nat.le_refl _) (by omega))).tr (FKM.ar _ 52 _ (Or.inr ⟨by decide, by decide, Nat.le_refl _⟩) (by omega))).tr (FKM.f35 _ _ _ _), fun x => x.elim, fun res hR => w6 res (run_ret w2 (by omega) ?_ (by decide) hR)⟩
            rw [ans_has w5, show oI (some f1) = nI f1 from rfl, has_A1 hu (by omega) (by omega), sg_A 0 (by decide), km.1, if_neg n5]
    · -- a pair
      rw [show m + lam 80 = m from rfl] at hT1
      replace b7 : ∃ i2, i2 < i ∧ sC0.2.1 9 i = nI i2 ∧ sM0.2.1 43 u = nI x1 ∧ TR sC0 sM0 t.1 h i2 x1 m e := by
        rcases b7 with ⟨c1, _⟩ | ⟨_, i2, x2, c2, c3, c4, c5, c6⟩
        · exact absurd c1 (by decide)
        · rcases c6 with ⟨_, rfl⟩ | ⟨c6, _⟩
          · exact ⟨i2, c2, c3, c4, c5⟩
          · exact absurd c6 (by decide)
      obtain ⟨i2, hi2, f9, f43, hT2⟩ := b7
      have hlt2 := hT2.lt
      obtain ⟨r1, s1, q1, e1, e2, e3, e4, e5, e6, e7, e8⟩ := ihF i1 (u + 1) m x1 q ar (dp + 1) sC hT1 (by omega) hK hP (by omega) (by omega) (by omega)
      obtain ⟨r2, s2, q2, d1, d2, d3, d4, d5, d6, d7, d8⟩ := ihF i2 x1 m e q1 ar (dp + 1) s1 hT2 (by omega) e4 e5 (by omega) (by omega) (by omega)
      have cl2 : ∀ z, f_X0_joined n s2 3 (oI r1) (oI r2) = some z → g_X0_formulaOf n rG rF sC (nI i) (nI m) (nI dp) = some z := by
        intro z hz
        refine hhead z ?_
        rw [if_neg (by decide), if_neg (by decide), if_neg (by decide), if_pos (by decide), e1, Option.bind_some]
        simp only []
        rw [hkc q1 s1 e4, Option.bind_some]
        simp only []
        rw [f9, d1, Option.bind_some]
        simp only []
        rw [hz, Option.bind_some]
      have pre : ∀ (sM : StT) (a : Nat) (b : Int32) (fo : Nat), KM sM0 t q ar m sM → sM.1 35 = nI (a + 1) → sM.2.1 49 a = nI u → sM.2.1 50 a = -1 → sM.2.1 51 a = nI 0 → a + (2 * (h + 1) - 1) < 2990 → 8 * (e - u) - 4 ≤ fo + 1 → ∃ S1 fo1, fo ≤ fo1 + (8 * (x1 - (u + 1)) - 4) ∧ S1.1 35 = nI (a + 1) ∧ FKM m a sM S1 ∧ ((∃ f, r1 = some f) → KM sM0 t q1 ar m S1) ∧ Row S1 a u (-1) 1 80 ∧ ∀ res, RUN n fo1 S1 (oI r1) res → RUN n (fo + 1) sM b res := by
        intro sM a b fo hKM h35 h49 h50 h51 hb hfo
        have hrow : Row sM a u (-1) 0 80 := ⟨by omega, hu, h49, h50, h51, by rw [hkm hKM (by decide) (by decide)]; exact b2⟩
        obtain ⟨S1, fo1, w1, w2, w3, w4, w5, w6⟩ := call e8 (hKM.sg a 0) (a := a) h35 (by omega) (fo := fo) (by omega)
        refine ⟨S1, fo1, w1, w2, (FKM.sg _ (Nat.le_refl _) (by omega)).tr (w3.lo (by omega) (by omega)), w4, ?_, fun res hR => run_ask h35 (by omega) ?_ (w6 res hR)⟩
        · exact row_after w3 (by omega) hu (by rw [sg_A 49 (by decide)]; exact h49) (by rw [sg_A 50 (by decide)]; exact h50) (sg_51 (by omega)) (by rw [sg_A 40 (by decide)]; exact hrow.2.2.2.2.2)
        · rw [ans_has hrow, has_P0 hu, sg_A 42 (by decide), hkm hKM (by decide) (by decide), b5]
          exact w5
      cases r1 with
      | none =>
        refine noTail s2 q2 (cl2 _ (joinC_neg n s2 3 (-1) (oI r2) (Or.inl rfl) (Or.inl rfl))) (e2.tr d2) (by omega) d4 d5 (e6.tr d6) ?_
        intro sM a b fo hKM h35 h49 h50 h51 hb hfo
        obtain ⟨fo, rfl⟩ : ∃ z, fo = z + 1 := ⟨fo - 1, by omega⟩
        obtain ⟨S1, fo1, w1, w2, w3, w4, w5, w6⟩ := pre sM a b fo hKM h35 h49 h50 h51 hb hfo
        obtain ⟨fo1, rfl⟩ : ∃ z, fo1 = z + 1 := ⟨fo1 - 1, by omega⟩
        exact ⟨uF (sg S1 a 1) 35 (nI a), fo1, by omega, rfl, (w3.tr (FKM.sg _ (Nat.le_refl _) (by omega))).tr (FKM.f35 _ _ _ _), fun x => x.elim, fun res hR => w6 res (run_ret w2 (by omega) (by rw [ans_has w5]; exact has_neg (by decide) (by decide)) (by decide) hR)⟩
      | some f1 =>
        have hv1 := e7 f1 rfl
        have hb1 := hv1.bd hw e5.1
        have pre2 : ∀ (sM : StT) (a : Nat) (b : Int32) (fo : Nat), KM sM0 t q ar m sM → sM.1 35 = nI (a + 1) → sM.2.1 49 a = nI u → sM.2.1 50 a = -1 → sM.2.1 51 a = nI 0 → a + (2 * (h + 1) - 1) < 2990 → 8 * (e - u) - 4 ≤ fo + 2 → ∃ S2 fo2, fo ≤ fo2 + (8 * (x1 - (u + 1)) - 4) + (8 * (e - x1) - 4) ∧ S2.1 35 = nI (a + 1) ∧ FKM m a sM S2 ∧ ((∃ f, r2 = some f) → KM sM0 t q2 ar m S2) ∧ Row S2 a u (-1) 2 80 ∧ S2.2.1 52 a = nI f1 ∧ ∀ res, RUN n fo2 S2 (oI r2) res → RUN n (fo + 2) sM b res := by
          intro sM a b fo hKM h35 h49 h50 h51 hb hfo
          obtain ⟨S1, fo1, w1, w2, w3, w4, w5, w6⟩ := pre sM a b (fo + 1) hKM h35 h49 h50 h51 hb (by omega)
          have kS := w4 ⟨f1, rfl⟩
          obtain ⟨fo1, rfl⟩ : ∃ z, fo1 = z + 1 := ⟨fo1 - 1, by omega⟩
          obtain ⟨S2, fo2, y1, y2, y3, y4, y5, y6⟩ := call d8 ((kS.sg a 1).w52 (nI a) (nI f1)) (a := a) w2 (by omega) (fo := fo1) (by omega)
          have fS : FKM m a S1 (uA (sg S1 a 1) 52 (nI a) (nI f1)) := (FKM.sg _ (Nat.le_refl _) (by omega)).tr (FKM.ar _ 52 _ (Or.inr ⟨by decide, by decide, Nat.le_refl _⟩) (by omega))
          refine ⟨S2, fo2, by omega, y2, (w3.tr fS).tr (y3.lo (by omega) (by omega)), y4, ?_, ?_, fun res hR => w6 res (run_ask w2 (by omega) ?_ (y6 res hR))⟩
          · refine row_after y3 (by omega) hu ?_ ?_ ?_ ?_
            · simp only [uA_21, if_neg (show ¬ (49 : Nat) = 52 by decide)]; rw [sg_A 49 (by decide)]; exact w5.2.2.1
            · simp only [uA_21, if_neg (show ¬ (50 : Nat) = 52 by decide)]; rw [sg_A 50 (by decide)]; exact w5.2.2.2.1
            · simp only [uA_21, if_neg (show ¬ (51 : Nat) = 52 by decide)]; exact sg_51 (by omega)
            · simp only [uA_21, if_neg (show ¬ (40 : Nat) = 52 by decide)]; rw [sg_A 40 (by decide)]; exact w5.2.2.2.2.2
          · rw [y3.2.2.2.2.1 52 a (by decide) (by decide) (by omega)]
            simp only [uA_21, if_true, upd_j, nI_cl (show a < 2 ^ 31 by omega)]
          · rw [ans_has w5, show oI (some f1) = nI f1 from rfl, has_P1 hu (by omega) (by omega), sg_A 43 (by decide), hkm kS (by decide) (by decide), f43]
            exact y5
        cases r2 with
        | none =>
          refine noTail s2 q2 (cl2 _ (joinC_neg n s2 3 (nI f1) (-1) (Or.inr rfl) (Or.inr ⟨f1, by omega, rfl⟩))) (e2.tr d2) (by omega) d4 d5 (e6.tr d6) ?_
          intro sM a b fo hKM h35 h49 h50 h51 hb hfo
          obtain ⟨fo, rfl⟩ : ∃ z, fo = z + 2 := ⟨fo - 2, by omega⟩
          obtain ⟨S2, fo2, w1, w2, w3, w4, w5, w7, w6⟩ := pre2 sM a b fo hKM h35 h49 h50 h51 hb hfo
          obtain ⟨fo2, rfl⟩ : ∃ z, fo2 = z + 1 := ⟨fo2 - 1, by omega⟩
          exact ⟨uF (sg S2 a 2) 35 (nI a), fo2, by omega, rfl, (w3.tr (FKM.sg _ (Nat.le_refl _) (by omega))).tr (FKM.f35 _ _ _ _), fun x => x.elim, fun res hR => w6 res (run_ret w2 (by omega) (by rw [ans_has w5]; exact has_neg (by decide) (by decide)) (by decide) hR)⟩
        | some f2 =>
          have hv2 := d7 f2 rfl
          have hb2 := hv2.bd hw d5.1
          have hv1' := hv1.up d2
          have hq2 : q2.1 < 1600 := by omega
          obtain ⟨s3, j1, j2, j3, j4, j5⟩ := joinCK hn d4.1 d4.2.1 hw d5.1 (Or.inl rfl) hv1' hv2 hq2
          have jo := jq_ow hw d5.1 (k := 3) (Or.inl rfl) hv1' hv2 hq2
          have hvr := jo.2.2.1
          have hbr := hvr.bd hw jo.1
          refine ⟨some (jq t q2 3 f1 f2).1, s3, (jq t q2 3 f1 f2).2, cl2 _ j1, (e2.tr d2).tr jo.2.1, by omega, d4.join j2 j3 j4, ⟨jo.1, fun i hi => (d5.2 i hi).up jo.2.1⟩, (e6.tr d6).tr ⟨j3, fun j hj => j4 j (by omega), fun i _ => by rw [j4 40 (by decide)], j5⟩, fun z hz => by rw [← Option.some.inj hz]; exact hvr, ?_⟩
          intro sM a b fo hKM h35 h49 h50 h51 hb hfo
          obtain ⟨fo, rfl⟩ : ∃ z, fo = z + 2 := ⟨fo - 2, by omega⟩
          obtain ⟨S2, fo2, w1, w2, w3, w4, w5, w7, w6⟩ := pre2 sM a b fo hKM h35 h49 h50 h51 hb hfo
          obtain ⟨fo2, rfl⟩ : ∃ z, fo2 = z + 1 := ⟨fo2 - 1, by omega⟩
          have kS := w4 ⟨f2, rfl⟩
          obtain ⟨S3, l1, l2, l3, l4, l5, l6⟩ := joinMK hn (kS.sg a 2).1 (kS.sg a 2).2.1 hw d5.1 (k := 3) (Or.inl rfl) hv1' hv2 hq2
          refine ⟨uF S3 35 (nI a), fo2, by omega, rfl, ((w3.tr (FKM.sg _ (Nat.le_refl _) (by omega))).tr (FKM.join l3 l4 l5 l6)).tr (FKM.f35 _ _ _ _), fun _ => ((kS.sg a 2).join hw l2 l3 l4 l5).f35 _, fun res hR => w6 res (run_ret w2 (by omega) ?_ (oI_ne2 (r := some (jq t q2 3 f1 f2).1) (fun z hz => by rw [← Option.some.inj hz]; omega)) hR)⟩
          rw [ans_has w5, show oI (some f2) = nI f2 from rfl, has_P2 (by omega) (by omega), sg_A 52 (by decide), w7]
          exact l1
    · -- 70
      rw [show m + lam 70 = m from rfl] at hT1
      replace b7 : x1 = e := by
        rcases b7 with ⟨_, c2, _⟩ | ⟨c1, _⟩
        · exact c2
        · exact absurd c1 (by decide)
      subst b7
      obtain ⟨r1, s1, q1, e1, e2, e3, e4, e5, e6, e7, e8⟩ := ihF i1 (u + 1) m x1 q ar (dp + 1) sC hT1 (by omega) hK hP (by omega) (by omega) (by omega)
      have pre : ∀ (sM : StT) (a : Nat) (b : Int32) (fo : Nat), KM sM0 t q ar m sM → sM.1 35 = nI (a + 1) → sM.2.1 49 a = nI u → sM.2.1 50 a = -1 → sM.2.1 51 a = nI 0 → a + (2 * (h + 1) - 1) < 2990 → 8 * (x1 - u) - 4 ≤ fo + 1 → ∃ S1 fo1, fo ≤ fo1 + (8 * (x1 - (u + 1)) - 4) ∧ S1.1 35 = nI (a + 1) ∧ FKM m a sM S1 ∧ ((∃ f, r1 = some f) → KM sM0 t q1 ar m S1) ∧ Row S1 a u (-1) 1 70 ∧ ∀ res, RUN n fo1 S1 (oI r1) res → RUN n (fo + 1) sM b res := by
        intro sM a b fo hKM h35 h49 h50 h51 hb hfo
        have hrow : Row sM a u (-1) 0 70 := ⟨by omega, hu, h49, h50, h51, by rw [hkm hKM (by decide) (by decide)]; exact b2⟩
        obtain ⟨S1, fo1, w1, w2, w3, w4, w5, w6⟩ := call e8 (hKM.sg a 0) (a := a) h35 (by omega) (fo := fo) (by omega)
        refine ⟨S1, fo1, w1, w2, (FKM.sg _ (Nat.le_refl _) (by omega)).tr (w3.lo (by omega) (by omega)), w4, ?_, fun res hR => run_ask h35 (by omega) ?_ (w6 res hR)⟩
        · exact row_after w3 (by omega) hu (by rw [sg_A 49 (by decide)]; exact h49) (by rw [sg_A 50 (by decide)]; exact h50) (sg_51 (by omega)) (by rw [sg_A 40 (by decide)]; exact hrow.2.2.2.2.2)
        · rw [ans_has hrow, has_F0 (by decide) hu, sg_A 42 (by decide), hkm hKM (by decide) (by decide), b5]
          exact w5
      cases r1 with
      | none =>
        refine noTail s1 q1 (hhead _ ?_) e2 (by omega) e4 e5 e6 ?_
        · rw [if_neg (by decide), if_pos (by decide), e1, Option.bind_some]
          simp only []
          rw [show oI none = -1 from rfl, kindC_m1, Option.bind_some]
          simp only []
          rw [if_neg (by decide)]
        · intro sM a b fo hKM h35 h49 h50 h51 hb hfo
          obtain ⟨fo, rfl⟩ : ∃ z, fo = z + 1 := ⟨fo - 1, by omega⟩
          obtain ⟨S1, fo1, w1, w2, w3, w4, w5, w6⟩ := pre sM a b fo hKM h35 h49 h50 h51 hb hfo
          obtain ⟨fo1, rfl⟩ : ∃ z, fo1 = z + 1 := ⟨fo1 - 1, by omega⟩
          exact ⟨uF (sg S1 a 1) 35 (nI a), fo1, by omega, rfl, (w3.tr (FKM.sg _ (Nat.le_refl _) (by omega))).tr (FKM.f35 _ _ _ _), fun x => x.elim, fun res hR => w6 res (run_ret w2 (by omega) (by rw [ans_has w5]; exact has_neg (by decide) (by decide)) (by decide) hR)⟩
      | some f1 =>
        have hv1 := e7 f1 rfl
        have hb1 := hv1.bd hw e5.1
        have kc := kindC (n := n) e4.1 e4.2.1 hw e5.1 hv1
        have hgk : gk t q1 f1 < 10 := by
          by_cases c : 3 ≤ gk t q1 f1
          · have := (hv1.parts hw e5.1 c).2.2; omega
          · omega
        by_cases c3 : gk t q1 f1 = 3
        · have hpt := hv1.parts hw e5.1 (by omega)
          have hvr : vld t q1 (gl t q1 f1) := hpt.1
          have hbr := hvr.bd hw e5.1
          refine ⟨some (gl t q1 f1), s1, q1, hhead _ ?_, e2, by omega, e4, e5, e6, fun z hz => by rw [← Option.some.inj hz]; exact hvr, ?_⟩
          · rw [if_neg (by decide), if_pos (by decide), e1, Option.bind_some]
            simp only []
            rw [show oI (some f1) = nI f1 from rfl, kc.1, Option.bind_some]
            simp only []
            rw [if_pos (by rw [c3]; rfl), kc.2.1, Option.bind_some]
            rfl
          · intro sM a b fo hKM h35 h49 h50 h51 hb hfo
            obtain ⟨fo, rfl⟩ : ∃ z, fo = z + 1 := ⟨fo - 1, by omega⟩
            obtain ⟨S1, fo1, w1, w2, w3, w4, w5, w6⟩ := pre sM a b fo hKM h35 h49 h50 h51 hb hfo
            obtain ⟨fo1, rfl⟩ : ∃ z, fo1 = z + 1 := ⟨fo1 - 1, by omega⟩
            have kS := w4 ⟨f1, rfl⟩
            have km := kindM kS.1 kS.2.1 hw hv1
            refine ⟨uF (sg S1 a 1) 35 (nI a), fo1, by omega, rfl, (w3.tr (FKM.sg _ (Nat.le_refl _) (by omega))).tr (FKM.f35 _ _ _ _), fun _ => (kS.sg a 1).f35 _, fun res hR => w6 res (run_ret w2 (by omega) ?_ (oI_ne2 (r := some (gl t q1 f1)) (fun z hz => by rw [← Option.some.inj hz]; omega)) hR)⟩
            rw [ans_has w5, show oI (some f1) = nI f1 from rfl, has_F1 (by omega), sg_A 0 (by decide), km.1, if_pos (by rw [c3]; rfl), sg_A 1 (by decide), km.2.1]
            rfl
        · have n3 : ¬ nI (gk t q1 f1) = (3 : Int32) := fun e => c3 (nI_inj (b := 3) (by omega) (by omega) e)
          refine noTail s1 q1 (hhead _ ?_) e2 (by omega) e4 e5 e6 ?_
          · rw [if_neg (by decide), if_pos (by decide), e1, Option.bind_some]
            simp only []
            rw [show oI (some f1) = nI f1 from rfl, kc.1, Option.bind_some]
            simp only []
            rw [if_neg n3]
          · intro sM a b fo hKM h35 h49 h50 h51 hb hfo
            obtain ⟨fo, rfl⟩ : ∃ z, fo = z + 1 := ⟨fo - 1, by omega⟩
            obtain ⟨S1, fo1, w1, w2, w3, w4, w5, w6⟩ := pre sM a b fo hKM h35 h49 h50 h51 hb hfo
            obtain ⟨fo1, rfl⟩ : ∃ z, fo1 = z + 1 := ⟨fo1 - 1, by omega⟩
            have kS := w4 ⟨f1, rfl⟩
            have km := kindM kS.1 kS.2.1 hw hv1
            refine ⟨uF (sg S1 a 1) 35 (nI a), fo1, by omega, rfl, (w3.tr (FKM.sg _ (Nat.le_refl _) (by omega))).tr (FKM.f35 _ _ _ _), fun x => x.elim, fun res hR => w6 res (run_ret w2 (by omega) ?_ (by decide) hR)⟩
            rw [ans_has w5, show oI (some f1) = nI f1 from rfl, has_F1 (by omega), sg_A 0 (by decide), km.1, if_neg n3]
    · -- 83
      rw [show m + lam 83 = m from rfl] at hT1
      replace b7 : x1 = e := by
        rcases b7 with ⟨_, c2, _⟩ | ⟨c1, _⟩
        · exact c2
        · exact absurd c1 (by decide)
      subst b7
      obtain ⟨r1, s1, q1, e1, e2, e3, e4, e5, e6, e7, e8⟩ := ihF i1 (u + 1) m x1 q ar (dp + 1) sC hT1 (by omega) hK hP (by omega) (by omega) (by omega)
      have pre : ∀ (sM : StT) (a : Nat) (b : Int32) (fo : Nat), KM sM0 t q ar m sM → sM.1 35 = nI (a + 1) → sM.2.1 49 a = nI u → sM.2.1 50 a = -1 → sM.2.1 51 a = nI 0 → a + (2 * (h + 1) - 1) < 2990 → 8 * (x1 - u) - 4 ≤ fo + 1 → ∃ S1 fo1, fo ≤ fo1 + (8 * (x1 - (u + 1)) - 4) ∧ S1.1 35 = nI (a + 1) ∧ FKM m a sM S1 ∧ ((∃ f, r1 = some f) → KM sM0 t q1 ar m S1) ∧ Row S1 a u (-1) 1 83 ∧ ∀ res, RUN n fo1 S1 (oI r1) res → RUN n (fo + 1) sM b res := by
        intro sM a b fo hKM h35 h49 h50 h51 hb hfo
        have hrow : Row sM a u (-1) 0 83 := ⟨by omega, hu, h49, h50, h51, by rw [hkm hKM (by decide) (by decide)]; exact b2⟩
        obtain ⟨S1, fo1, w1, w2, w3, w4, w5, w6⟩ := call e8 (hKM.sg a 0) (a := a) h35 (by omega) (fo := fo) (by omega)
        refine ⟨S1, fo1, w1, w2, (FKM.sg _ (Nat.le_refl _) (by omega)).tr (w3.lo (by omega) (by omega)), w4, ?_, fun res hR => run_ask h35 (by omega) ?_ (w6 res hR)⟩
        · exact row_after w3 (by omega) hu (by rw [sg_A 49 (by decide)]; exact h49) (by rw [sg_A 50 (by decide)]; exact h50) (sg_51 (by omega)) (by rw [sg_A 40 (by decide)]; exact hrow.2.2.2.2.2)
        · rw [ans_has hrow, has_F0 (by decide) hu, sg_A 42 (by decide), hkm hKM (by decide) (by decide), b5]
          exact w5
      cases r1 with
      | none =>
        refine noTail s1 q1 (hhead _ ?_) e2 (by omega) e4 e5 e6 ?_
        · rw [if_neg (by decide), if_neg (by decide), if_neg (by decide), if_neg (by decide), if_pos (by decide), e1, Option.bind_some]
          simp only []
          rw [show oI none = -1 from rfl, kindC_m1, Option.bind_some]
          simp only []
          rw [if_neg (by decide)]
        · intro sM a b fo hKM h35 h49 h50 h51 hb hfo
          obtain ⟨fo, rfl⟩ : ∃ z, fo = z + 1 := ⟨fo - 1, by omega⟩
          obtain ⟨S1, fo1, w1, w2, w3, w4, w5, w6⟩ := pre sM a b fo hKM h35 h49 h50 h51 hb hfo
          obtain ⟨fo1, rfl⟩ : ∃ z, fo1 = z + 1 := ⟨fo1 - 1, by omega⟩
          exact ⟨uF (sg S1 a 1) 35 (nI a), fo1, by omega, rfl, (w3.tr (FKM.sg _ (Nat.le_refl _) (by omega))).tr (FKM.f35 _ _ _ _), fun x => x.elim, fun res hR => w6 res (run_ret w2 (by omega) (by rw [ans_has w5]; exact has_neg (by decide) (by decide)) (by decide) hR)⟩
      | some f1 =>
        have hv1 := e7 f1 rfl
        have hb1 := hv1.bd hw e5.1
        have kc := kindC (n := n) e4.1 e4.2.1 hw e5.1 hv1
        have hgk : gk t q1 f1 < 10 := by
          by_cases c : 3 ≤ gk t q1 f1
          · have := (hv1.parts hw e5.1 c).2.2; omega
          · omega
        by_cases c3 : gk t q1 f1 = 3
        · have hpt := hv1.parts hw e5.1 (by omega)
          have hvr : vld t q1 (gr t q1 f1) := hpt.2.1
          have hbr := hvr.bd hw e5.1
          refine ⟨some (gr t q1 f1), s1, q1, hhead _ ?_, e2, by omega, e4, e5, e6, fun z hz => by rw [← Option.some.inj hz]; exact hvr, ?_⟩
          · rw [if_neg (by decide), if_neg (by decide), if_neg (by decide), if_neg (by decide), if_pos (by decide), e1, Option.bind_some]
            simp only []
            rw [show oI (some f1) = nI f1 from rfl, kc.1, Option.bind_some]
            simp only []
            rw [if_pos (by rw [c3]; rfl), kc.2.2, Option.bind_some]
            rfl
          · intro sM a b fo hKM h35 h49 h50 h51 hb hfo
            obtain ⟨fo, rfl⟩ : ∃ z, fo = z + 1 := ⟨fo - 1, by omega⟩
            obtain ⟨S1, fo1, w1, w2, w3, w4, w5, w6⟩ := pre sM a b fo hKM h35 h49 h50 h51 hb hfo
            obtain ⟨fo1, rfl⟩ : ∃ z, fo1 = z + 1 := ⟨fo1 - 1, by omega⟩
            have kS := w4 ⟨f1, rfl⟩
            have km := kindM kS.1 kS.2.1 hw hv1
            refine ⟨uF (sg S1 a 1) 35 (nI a), fo1, by omega, rfl, (w3.tr (FKM.sg _ (Nat.le_refl _) (by omega))).tr (FKM.f35 _ _ _ _), fun _ => (kS.sg a 1).f35 _, fun res hR => w6 res (run_ret w2 (by omega) ?_ (oI_ne2 (r := some (gr t q1 f1)) (fun z hz => by rw [← Option.some.inj hz]; omega)) hR)⟩
            rw [ans_has w5, show oI (some f1) = nI f1 from rfl, has_S1 (by omega), sg_A 0 (by decide), km.1, if_pos (by rw [c3]; rfl), sg_A 2 (by decide), km.2.2]
            rfl
        · have n3 : ¬ nI (gk t q1 f1) = (3 : Int32) := fun e => c3 (nI_inj (b := 3) (by omega) (by omega) e)
          refine noTail s1 q1 (hhead _ ?_) e2 (by omega) e4 e5 e6 ?_
          · rw [if_neg (by decide), if_neg (by decide), if_neg (by decide), if_neg (by decide), if_pos (by decide), e1, Option.bind_some]
            simp only []
            rw [show oI (some f1) = nI f1 from rfl, kc.1, Option.bind_some]
            simp only []
            rw [if_neg n3]
          · intro sM a b fo hKM h35 h49 h50 h51 hb hfo
            obtain ⟨fo, rfl⟩ : ∃ z, fo = z + 1 := ⟨fo - 1, by omega⟩
            obtain ⟨S1, fo1, w1, w2, w3, w4, w5, w6⟩ := pre sM a b fo hKM h35 h49 h50 h51 hb hfo
            obtain ⟨fo1, rfl⟩ : ∃ z, fo1 = z + 1 := ⟨fo1 - 1, by omega⟩
            have kS := w4 ⟨f1, rfl⟩
            have km := kindM kS.1 kS.2.1 hw hv1
            refine ⟨uF (sg S1 a 1) 35 (nI a), fo1, by omega, rfl, (w3.tr (FKM.sg _ (Nat.le_refl _) (by omega))).tr (FKM.f35 _ _ _ _), fun x => x.elim, fun res hR => w6 res (run_ret w2 (by omega) ?_ (by decide) hR)⟩
            rw [ans_has w5, show oI (some f1) = nI f1 from rfl, has_S1 (by omega), sg_A 0 (by decide), km.1, if_neg n3]
    · -- no such term has anything by itself
      clear b7
      refine noTail sC q (hhead _ ?_) (Gq.rf q) (by omega) hK hP (FKC.rf _ _) ?_
      · rcases hk with rfl | rfl | rfl | rfl <;> rw [if_neg (by decide), if_neg (by decide), if_neg (by decide), if_neg (by decide), if_neg (by decide), if_neg (by decide), if_neg (by decide)]
      · refine ref1 (by omega) (by decide) hu (k := k) b2 (fun sM a b hKM hrow => ?_)
        rw [ans_has hrow, has_else (by omega)]
