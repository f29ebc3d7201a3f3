/-! ===== checking: what both sides keep ===== -/
def KC (sC0 : StT) (t q : FT) (ar : Nat → Nat) (m : Nat) (s : StT) : Prop := CFt s t ∧ CF1 s q ∧ (∀ i, i < m → s.2.1 40 i = nI (ar i)) ∧ s.1 8 = sC0.1 8 ∧ ∀ j, 6 < j → j < 11 → s.2.1 j = sC0.2.1 j
def KM (sM0 : StT) (t q : FT) (ar : Nat → Nat) (m : Nat) (s : StT) : Prop := MF s t ∧ OTM s q ∧ (∀ i, i < m → s.2.1 48 i = nI (ar i)) ∧ ∀ j, 39 < j → j < 45 → s.2.1 j = sM0.2.1 j
def PV (t q : FT) (ar : Nat → Nat) (m : Nat) : Prop := OW t q ∧ ∀ i, i < m → vld t q (ar i)
def FKC (m : Nat) (s s' : StT) : Prop := (∀ j, j ≠ 25 → s'.1 j = s.1 j) ∧ (∀ j, (j < 35 ∨ 40 < j) → s'.2.1 j = s.2.1 j) ∧ (∀ i, i < m → s'.2.1 40 i = s.2.1 40 i) ∧ s'.2.2 = s.2.2
def FKM (m a : Nat) (s s' : StT) : Prop := (∀ j, j ≠ 1 → j ≠ 35 → s'.1 j = s.1 j) ∧ (∀ j, 2 < j → (j < 48 ∨ 52 < j) → s'.2.1 j = s.2.1 j) ∧ (∀ j r, j < 3 → r < 2000 → s'.2.1 j r = s.2.1 j r) ∧ (∀ i, i < m → s'.2.1 48 i = s.2.1 48 i) ∧ (∀ j r, 48 < j → j < 53 → r < a → s'.2.1 j r = s.2.1 j r) ∧ s'.2.2 = s.2.2
theorem FKC.rf (m : Nat) (s : StT) : FKC m s s := ⟨fun _ _ => rfl, fun _ _ => rfl, fun _ _ => rfl, rfl⟩
theorem FKC.tr {m : Nat} {a b c : StT} (x : FKC m a b) (y : FKC m b c) : FKC m a c := ⟨fun j h => (y.1 j h).trans (x.1 j h), fun j h => (y.2.1 j h).trans (x.2.1 j h), fun i h => (y.2.2.1 i h).trans (x.2.2.1 i h), y.2.2.2.trans x.2.2.2⟩
theorem FKC.lo {m m' : Nat} {a b : StT} (x : FKC m' a b) (h : m ≤ m') : FKC m a b := ⟨x.1, x.2.1, fun i hi => x.2.2.1 i (by omega), x.2.2.2⟩
theorem FKM.rf (m a : Nat) (s : StT) : FKM m a s s := ⟨fun _ _ _ => rfl, fun _ _ _ => rfl, fun _ _ _ _ => rfl, fun _ _ => rfl, fun _ _ _ _ _ => rfl, rfl⟩
theorem FKM.tr {m a : Nat} {s1 s2 s3 : StT} (x : FKM m a s1 s2) (y : FKM m a s2 s3) : FKM m a s1 s3 := ⟨fun j h h2 => (y.1 j h h2).trans (x.1 j h h2), fun j h h2 => (y.2.1 j h h2).trans (x.2.1 j h h2), fun j r h h2 => (y.2.2.1 j r h h2).trans (x.2.2.1 j r h h2), fun i h => (y.2.2.2.1 i h).trans (x.2.2.2.1 i h), fun j r h h2 h3 => (y.2.2.2.2.1 j r h h2 h3).trans (x.2.2.2.2.1 j r h h2 h3), y.2.2.2.2.2.trans x.2.2.2.2.2⟩
theorem FKM.lo {m m' a a' : Nat} {s s' : StT} (x : FKM m' a' s s') (h : m ≤ m') (h2 : a ≤ a') : FKM m a s s' := ⟨x.1, x.2.1, x.2.2.1, fun i hi => x.2.2.2.1 i (by omega), fun j r p1 p2 p3 => x.2.2.2.2.1 j r p1 p2 (by omega), x.2.2.2.2.2⟩
theorem FKM.f35 (m a : Nat) (s : StT) (x : Int32) : FKM m a s (uF s 35 x) := ⟨fun j _ h => by simp only [uF_1]; rw [if_neg h], fun _ _ _ => rfl, fun _ _ _ _ => rfl, fun _ _ => rfl, fun _ _ _ _ _ => rfl, rfl⟩
theorem FKM.ar {m a e : Nat} (s : StT) (k : Nat) (x : Int32) (h : (k = 48 ∧ m ≤ e) ∨ (48 < k ∧ k < 53 ∧ a ≤ e)) (he : e < 2 ^ 31) : FKM m a s (uA s k (nI e) x) := by
  refine ⟨fun _ _ _ => rfl, fun j h1 h2 => ?_, fun j r h1 h2 => ?_, fun i hi => ?_, fun j r h1 h2 h3 => ?_, rfl⟩
  · simp only [uA_21]; rw [if_neg (by omega)]
  · simp only [uA_21]; rw [if_neg (by omega)]
  · simp only [uA_21]
    by_cases c : 48 = k
    · rw [if_pos c, upd_j, nI_cl he, if_neg (by omega)]
    · rw [if_neg c]
  · simp only [uA_21]
    by_cases c : j = k
    · rw [if_pos c, upd_j, nI_cl he, if_neg (by omega)]
    · rw [if_neg c]
theorem FKM.sg {m a e st : Nat} (s : StT) (h : a ≤ e) (he : e < 3000) : FKM m a s (sg s e st) := FKM.ar s 51 _ (Or.inr ⟨by decide, by decide, h⟩) (by omega)
theorem FKM.pu {m a e : Nat} (s : StT) (x y : Int32) (h : a ≤ e) (he : e < 3000) : FKM m a s (pu s e x y) := (((FKM.ar s 49 _ (Or.inr ⟨by decide, by decide, h⟩) (by omega)).tr (FKM.ar _ 50 _ (Or.inr ⟨by decide, by decide, h⟩) (by omega))).tr (FKM.ar _ 51 _ (Or.inr ⟨by decide, by decide, h⟩) (by omega))).tr (FKM.f35 _ _ _ _)
def updN (ar : Nat → Nat) (m f : Nat) : Nat → Nat := fun i => if i = m then f else ar i
theorem KM.mv {sM0 : StT} {t q : FT} {ar : Nat → Nat} {m : Nat} {s s' : StT} (h : KM sM0 t q ar m s) (f0 : s'.1 0 = s.1 0) (f1 : s'.1 1 = s.1 1) (hA : ∀ j, (j < 3 ∨ (39 < j ∧ j < 45) ∨ j = 48) → s'.2.1 j = s.2.1 j) : KM sM0 t q ar m s' := by
  obtain ⟨h1, h2, h3, h4⟩ := h
  refine ⟨⟨by rw [f0]; exact h1.1, fun f hf => ?_⟩, ⟨by rw [f1]; exact h2.1, fun g hg => ?_⟩, fun i hi => ?_, fun j a b => ?_⟩
  · rw [hA 0 (by decide), hA 1 (by decide), hA 2 (by decide)]; exact h1.2 f hf
  · rw [hA 0 (by decide), hA 1 (by decide), hA 2 (by decide)]; exact h2.2 g hg
  · rw [hA 48 (by decide)]; exact h3 i hi
  · rw [hA j (by omega)]; exact h4 j a b
theorem KM.sg {sM0 : StT} {t q : FT} {ar : Nat → Nat} {m : Nat} {s : StT} (h : KM sM0 t q ar m s) (a st : Nat) : KM sM0 t q ar m (sg s a st) := h.mv rfl rfl (fun j hj => sg_A j (by omega))
theorem KM.w52 {sM0 : StT} {t q : FT} {ar : Nat → Nat} {m : Nat} {s : StT} (h : KM sM0 t q ar m s) (i x : Int32) : KM sM0 t q ar m (uA s 52 i x) := h.mv rfl rfl (fun j hj => by simp only [uA_21]; rw [if_neg (by omega)])
theorem KM.f35 {sM0 : StT} {t q : FT} {ar : Nat → Nat} {m : Nat} {s : StT} (h : KM sM0 t q ar m s) (x : Int32) : KM sM0 t q ar m (uF s 35 x) := h.mv rfl rfl (fun _ _ => rfl)
theorem KM.push {sM0 : StT} {t q : FT} {ar : Nat → Nat} {m : Nat} {s : StT} (h : KM sM0 t q ar m s) (a : Nat) (x y : Int32) : KM sM0 t q ar m (pu s a x y) := h.mv rfl rfl (fun j hj => by
  unfold pu; simp only [uF_2, uA_21]; rw [if_neg (by omega), if_neg (by omega), if_neg (by omega)])
theorem KM.bind {sM0 : StT} {t q : FT} {ar : Nat → Nat} {m f : Nat} {s : StT} (h : KM sM0 t q ar m s) (hm : m < 80) : KM sM0 t q (updN ar m f) (m + 1) (uA s 48 (nI m) (nI f)) := by
  obtain ⟨h1, h2, h3, h4⟩ := h
  refine ⟨⟨h1.1, fun g hg => ?_⟩, ⟨h2.1, fun g hg => ?_⟩, fun i hi => ?_, fun j a b => ?_⟩
  · simp only [uA_21]; rw [if_neg (by decide), if_neg (by decide), if_neg (by decide)]; exact h1.2 g hg
  · simp only [uA_21]; rw [if_neg (by decide), if_neg (by decide), if_neg (by decide)]; exact h2.2 g hg
  · simp only [uA_21, if_true, upd_j, nI_cl (show m < 2 ^ 31 by omega), updN]
    by_cases c : i = m
    · simp only [c, if_true]
    · simp only [c, if_false]; exact h3 i (by omega)
  · simp only [uA_21]; rw [if_neg (by omega)]; exact h4 j a b
theorem KM.lo {sM0 : StT} {t q : FT} {ar : Nat → Nat} {m f : Nat} {s : StT} (h : KM sM0 t q (updN ar m f) (m + 1) s) : KM sM0 t q ar m s := ⟨h.1, h.2.1, fun i hi => by
  have := h.2.2.1 i (by omega)
  simp only [updN, show ¬ i = m by omega, if_false] at this
  exact this, h.2.2.2⟩
theorem KC.bind {sC0 : StT} {t q : FT} {ar : Nat → Nat} {m f : Nat} {s : StT} (h : KC sC0 t q ar m s) (hm : m < 60) : KC sC0 t q (updN ar m f) (m + 1) (uA s 40 (nI m) (nI f)) := by
  obtain ⟨h1, h2, h3, h4, h5⟩ := h
  refine ⟨?_, ?_, fun i hi => ?_, h4, fun j a b => ?_⟩
  · unfold CFt CFF0 at h1 ⊢
    simp only [uA_21, uA_1, if_neg (show ¬ (2 : Nat) = 40 by decide), if_neg (show ¬ (3 : Nat) = 40 by decide), if_neg (show ¬ (4 : Nat) = 40 by decide), if_neg (show ¬ (5 : Nat) = 40 by decide), if_neg (show ¬ (6 : Nat) = 40 by decide)]
    exact h1
  · unfold CF1 CFF1 at h2 ⊢
    simp only [uA_21, uA_1, if_neg (show ¬ (35 : Nat) = 40 by decide), if_neg (show ¬ (36 : Nat) = 40 by decide), if_neg (show ¬ (37 : Nat) = 40 by decide), if_neg (show ¬ (38 : Nat) = 40 by decide), if_neg (show ¬ (39 : Nat) = 40 by decide)]
    exact h2
  · simp only [uA_21, if_true, upd_j, nI_cl (show m < 2 ^ 31 by omega), updN]
    by_cases c : i = m
    · simp only [c, if_true]
    · simp only [c, if_false]; exact h3 i (by omega)
  · simp only [uA_21]; rw [if_neg (by omega)]; exact h5 j a b
theorem KC.lo {sC0 : StT} {t q : FT} {ar : Nat → Nat} {m f : Nat} {s : StT} (h : KC sC0 t q (updN ar m f) (m + 1) s) : KC sC0 t q ar m s := ⟨h.1, h.2.1, fun i hi => by
  have := h.2.2.1 i (by omega)
  simp only [updN, show ¬ i = m by omega, if_false] at this
  exact this, h.2.2.2⟩
theorem PV.bind {t q : FT} {ar : Nat → Nat} {m f : Nat} (h : PV t q ar m) (hf : vld t q f) : PV t q (updN ar m f) (m + 1) := ⟨h.1, fun i hi => by
  unfold updN
  by_cases c : i = m
  · simp only [c, if_true]; exact hf
  · simp only [c, if_false]; exact h.2 i (by omega)⟩
theorem PV.lo {t q : FT} {ar : Nat → Nat} {m f : Nat} (h : PV t q (updN ar m f) (m + 1)) : PV t q ar m := ⟨h.1, fun i hi => by
  have := h.2 i (by omega)
  simp only [updN, show ¬ i = m by omega, if_false] at this
  exact this⟩
theorem binds_e {n : Nat} {s : StT} {m : Nat} (hm : m < 60) (x : Int32) : f_X0_binds n s x (nI m) = some (1, uA s 40 (nI m) x) := by
  unfold f_X0_binds
  rw [if_neg (nI_nneg (by omega)), if_pos (show nI m < (60 : Int32) from (nI_ltI (b := 60) (by omega) (by omega)).mpr hm), inB_nI hm (by omega), if_pos rfl]
theorem FKC.bd {m : Nat} (s : StT) (x : Int32) (hm : m < 60) : FKC m s (uA s 40 (nI m) x) := ⟨fun _ _ => rfl, fun j hj => by simp only [uA_21]; rw [if_neg (by omega)], fun i hi => by
  simp only [uA_21, if_true, upd_j, nI_cl (show m < 2 ^ 31 by omega)]; rw [if_neg (by omega)], rfl⟩
/-- the class's looks at a term -/
theorem t0P {n : Nat} {s : StT} {N i : Nat} (hN : s.1 8 = nI N) (hN3 : N ≤ 3000) (hi : i < N) : f_X7_partOf_T0 n s (nI i) 0 = some (s.2.1 8 i, s) ∧ f_X7_partOf_T0 n s (nI i) 1 = some (s.2.1 9 i, s) ∧ f_X7_partOf_T0 n s (nI i) 2 = some (s.2.1 10 i, s) ∧ f_X7_kindOf_T0 n s (nI i) = some (s.2.1 7 i, s) ∧ f_X7_formulaOf_T0 n s (nI i) = some (s.2.1 9 i, s) := by
  have hh : f_X7_has_T0 n s (nI i) = some (1, s) := by
    unfold f_X7_has_T0
    rw [if_neg (nI_nneg (by omega)), hN, if_neg (fun e => absurd ((nI_leI (by omega) (by omega)).mp e) (by omega)), if_neg (show ¬ (3000 : Int32) ≤ nI i from fun e => absurd ((nI_leI (a := 3000) (by omega) (by omega)).mp e) (by omega))]
  have i3 : inB (nI i) 3000 = true := inB_nI (by omega) (by omega)
  have p1 : f_X7_partOf_T0 n s (nI i) 1 = some (s.2.1 9 i, s) := by
    unfold f_X7_partOf_T0
    rw [hh, Option.bind_some]
    simp only []
    rw [if_neg (show ¬ (1 : Int32) = 0 by decide), if_neg (show ¬ (1 : Int32) = 0 by decide), if_true, i3, if_pos rfl, nI_cl (by omega)]
  refine ⟨?_, p1, ?_, ?_, ?_⟩
  · unfold f_X7_partOf_T0
    rw [hh, Option.bind_some]
    simp only []
    rw [if_neg (show ¬ (1 : Int32) = 0 by decide), if_true, i3, if_pos rfl, nI_cl (by omega)]
  · unfold f_X7_partOf_T0
    rw [hh, Option.bind_some]
    simp only []
    rw [if_neg (show ¬ (1 : Int32) = 0 by decide), if_neg (show ¬ (2 : Int32) = 0 by decide), if_neg (show ¬ (2 : Int32) = 1 by decide), i3, if_pos rfl, nI_cl (by omega)]
  · unfold f_X7_kindOf_T0
    rw [hh, Option.bind_some]
    simp only []
    rw [if_neg (show ¬ (1 : Int32) = 0 by decide), i3, if_pos rfl, nI_cl (by omega)]
  · unfold f_X7_formulaOf_T0
    rw [p1, Option.bind_some]
/-- how the reference answers row a: c is what it costs, ok says that all still agrees -/
def RefA (n : Nat) (sM0 : StT) (t q q' : FT) (ar : Nat → Nat) (m u h c : Nat) (G r : Int32) (ok : Prop) : Prop := ∀ (sM : StT) (a : Nat) (b : Int32) (fo : Nat), KM sM0 t q ar m sM → sM.1 35 = nI (a + 1) → sM.2.1 49 a = nI u → sM.2.1 50 a = G → sM.2.1 51 a = nI 0 → a + h < 2990 → c ≤ fo → ∃ sM' fo', fo ≤ fo' + c ∧ sM'.1 35 = nI a ∧ FKM m a sM sM' ∧ (ok → KM sM0 t q' ar m sM') ∧ ∀ res, RUN n fo' sM' r res → RUN n fo sM b res
theorem call {n : Nat} {sM0 : StT} {t q q' : FT} {ar : Nat → Nat} {m u h c : Nat} {G r : Int32} {ok : Prop} (hR : RefA n sM0 t q q' ar m u h c G r ok) {S : StT} {a : Nat} (hK : KM sM0 t q ar m S) (h35 : S.1 35 = nI (a + 1)) (ha : a + 1 + h < 2990) {fo : Nat} (hc : c ≤ fo) : ∃ S' fo', fo ≤ fo' + c ∧ S'.1 35 = nI (a + 1) ∧ FKM m (a + 1) S S' ∧ (ok → KM sM0 t q' ar m S') ∧ f_X12_askOf n S (nI u) G = some (-2, pu S (a + 1) (nI u) G) ∧ ∀ res, RUN n fo' S' r res → RUN n fo (pu S (a + 1) (nI u) G) (-2) res := by
  have r49 : (pu S (a + 1) (nI u) G).2.1 49 (a + 1) = nI u := by
    unfold pu; simp only [uF_2, uA_21, if_true, if_neg (show ¬ (49 : Nat) = 50 by decide), if_neg (show ¬ (49 : Nat) = 51 by decide), upd_j, nI_cl (show a + 1 < 2 ^ 31 by omega)]
  have r50 : (pu S (a + 1) (nI u) G).2.1 50 (a + 1) = G := by
    unfold pu; simp only [uF_2, uA_21, if_true, if_neg (show ¬ (50 : Nat) = 51 by decide), upd_j, nI_cl (show a + 1 < 2 ^ 31 by omega)]
  have r51 : (pu S (a + 1) (nI u) G).2.1 51 (a + 1) = nI 0 := by
    unfold pu; simp only [uF_2, uA_21, if_true, upd_j, nI_cl (show a + 1 < 2 ^ 31 by omega)]; rfl
  obtain ⟨S', fo', e1, e2, e3, e4, e5⟩ := hR (pu S (a + 1) (nI u) G) (a + 1) (-2) fo (hK.push _ _ _) rfl r49 r50 r51 ha hc
  exact ⟨S', fo', e1, e2, (FKM.pu S _ _ (Nat.le_refl _) (by omega)).tr e3, e4, ask_e h35 (by omega) _ _, e5⟩
/-- what row a is after a call -/
theorem row_after {S S' : StT} {a u k st : Nat} {G : Int32} {m : Nat} (hF : FKM m (a + 1) S S') (ha : a < 3000) (hu : u < 1600) (h49 : S.2.1 49 a = nI u) (h50 : S.2.1 50 a = G) (h51 : S.2.1 51 a = nI st) (h40 : S.2.1 40 u = nI k) : Row S' a u G st k := ⟨ha, hu, by rw [hF.2.2.2.2.1 49 a (by decide) (by decide) (by omega)]; exact h49, by rw [hF.2.2.2.2.1 50 a (by decide) (by decide) (by omega)]; exact h50, by rw [hF.2.2.2.2.1 51 a (by decide) (by decide) (by omega)]; exact h51, by rw [hF.2.1 40 (by decide) (by decide)]; exact h40⟩
