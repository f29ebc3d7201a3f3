/-! ===== the call check ===== -/
theorem dropF1_loop {n : Nat} {s0 : StT} {fn : Nat} {kd fa fb : Nat → Nat} (h : CFF1 s0 fn kd fa fb) : ∀ (d i fu : Nat) (s : StT), i + d = fn → d < fu → (∀ j, s.1 j = s0.1 j) → (∀ j, j ≠ 38 → s.2.1 j = s0.2.1 j) → s.2.2 = s0.2.2 → (∀ c, c < 1024 → s.2.1 38 c = 0 ∨ (s.2.1 38 c = s0.2.1 38 c ∧ ∀ f, f < i → hF kd fa fb f ≠ c)) →
    ∃ s', f_X1_drop_F1_2 n fu s (nI i) = some s' ∧ s'.1 25 = 0 ∧ (∀ j, j ≠ 25 → s'.1 j = s0.1 j) ∧ (∀ j, j ≠ 38 → s'.2.1 j = s0.2.1 j) ∧ s'.2.2 = s0.2.2 ∧ ∀ c, c < 1024 → s'.2.1 38 c = 0 := by
  obtain ⟨h1, h2, h3, h4, h5⟩ := h
  intro d
  induction d with
  | zero =>
    intro i fu s hi hfu e1 e2 e3 e4
    obtain ⟨fu, rfl⟩ : ∃ z, fu = z + 1 := ⟨fu - 1, by omega⟩
    refine ⟨uF s 25 0, ?_, rfl, fun j hj => ?_, e2, e3, fun c hc => ?_⟩
    · rw [f_X1_drop_F1_2, e1, h1, if_pos ((nI_leI (by omega) (by omega)).mpr (by omega))]
    · simp only [uF_1]; rw [if_neg hj]; exact e1 j
    · rcases e4 c hc with z | ⟨z1, z2⟩
      · exact z
      · show s.2.1 38 c = 0
        rw [z1, h4 c hc]
        cases e : lastH (hF kd fa fb) c fn with
        | zero => rfl
        | succ j =>
          have := lastH_s e
          exact absurd this.2.1 (z2 j (by omega))
  | succ d ih =>
    intro i fu s hi hfu e1 e2 e3 e4
    obtain ⟨fu, rfl⟩ : ∃ z, fu = z + 1 := ⟨fu - 1, by omega⟩
    have hr := h3 i (by omega)
    obtain ⟨g1', g2'⟩ := hsh_e (nI (kd i)) (nI (fa i)) (nI (fb i))
    rw [f_X1_drop_F1_2, e1, h1, if_neg (fun e => absurd ((nI_leI (by omega) (by omega)).mp e) (by omega)), if_neg (show ¬ (3000 : Int32) ≤ nI i from fun e => absurd ((nI_leI (a := 3000) (by omega) (by omega)).mp e) (by omega)), inB_nI (show i < 3000 by omega) (by omega), if_pos rfl, if_pos rfl, if_pos rfl, nI_cl (by omega), e2 35 (by decide), e2 36 (by decide), e2 37 (by decide), hr.1, hr.2.1, hr.2.2]
    unfold f_X1_chainOf
    rw [Option.bind_some]
    simp only []
    rw [g1', inB_nI g2' (by omega), if_pos rfl, nI_1]
    refine ih (i + 1) fu _ (by omega) (by omega) e1 (fun j hj => ?_) e3 (fun c hc => ?_)
    · simp only [uA_21]; rw [if_neg hj]; exact e2 j hj
    · simp only [uA_21, if_true, upd_j, nI_cl (show hsh (nI (kd i)) (nI (fa i)) (nI (fb i)) < 2 ^ 31 by omega)]
      by_cases cc : c = hsh (nI (kd i)) (nI (fa i)) (nI (fb i))
      · left; rw [if_pos cc]
      · rw [if_neg cc]
        rcases e4 c hc with z | ⟨z1, z2⟩
        · exact Or.inl z
        · refine Or.inr ⟨z1, fun f hf => ?_⟩
          by_cases c2 : f = i
          · rw [c2]; exact fun e => cc e.symm
          · exact z2 f (by omega)
theorem dropF1 {n : Nat} (hn : 100000 ≤ n) {s : StT} {fn : Nat} {kd fa fb : Nat → Nat} (h : CFF1 s fn kd fa fb) : ∃ s', f_X1_drop_F1 n s = some s' ∧ CFF1 s' 0 kd fa fb ∧ (∀ j, j ≠ 25 → s'.1 j = s.1 j) ∧ (∀ j, j ≠ 38 → s'.2.1 j = s.2.1 j) ∧ s'.2.2 = s.2.2 := by
  have h2 := h.2.1
  obtain ⟨s', e1, e2, e3, e4, e5, e6⟩ := dropF1_loop (n := n) h fn 0 n s (by omega) (by omega) (fun _ => rfl) (fun _ _ => rfl) rfl (fun c _ => Or.inr ⟨rfl, fun f hf => by omega⟩)
  exact ⟨s', e1, ⟨e2, by omega, fun f hf => by omega, fun c hc => by rw [e6 c hc]; rfl, fun f hf => by omega⟩, e3, e4, e5⟩
theorem HS.ck {D : HD} {sC sM sC' sM' : StT} (h : HS D sC sM) {m a : Nat} (fC : FKC m sC sC') (fM : FKM m a sM sM') : HS D sC' sM' := by
  obtain ⟨h1, h2, h3, h4, h5, h6, h7, h8⟩ := h
  have hl := h3.2.1
  refine ⟨?_, ⟨by rw [fM.1 0 (by decide) (by decide)]; exact h2.1, fun f hf => ?_⟩, h3, by rw [fC.1 7 (by decide)]; exact h4, ?_, ?_, ?_, h8⟩
  · unfold CFt CFF0 at h1 ⊢
    rw [fC.1 6 (by decide), fC.2.1 2 (by decide), fC.2.1 3 (by decide), fC.2.1 4 (by decide), fC.2.1 5 (by decide), fC.2.1 6 (by decide)]
    exact h1
  · rw [fM.2.2.1 0 f (by decide) (by omega), fM.2.2.1 1 f (by decide) (by omega), fM.2.2.1 2 f (by decide) (by omega)]
    exact h2.2 f hf
  · unfold VF at h5 ⊢
    rw [fM.1 2 (by decide) (by decide), fM.2.1 5 (by decide) (by decide)]
    exact h5
  · intro v hv; rw [fC.2.2.2]; exact h6 v hv
  · intro v hv; rw [fM.2.1 3 (by decide) (by decide), fM.2.1 4 (by decide) (by decide)]; exact h7 v hv
/-- what the call check leaves as it is -/
def FHC (s s' : StT) : Prop := (∀ j, (j = 0 ∨ (11 < j ∧ j ≠ 25)) → s'.1 j = s.1 j) ∧ (∀ j, (j < 2 ∨ (11 < j ∧ j < 35) ∨ 40 < j) → s'.2.1 j = s.2.1 j) ∧ (∀ j, j ≠ 0 → s'.2.2.1 j = s.2.2.1 j) ∧ ∀ j, j ≠ 0 → s'.2.2.2 j = s.2.2.2 j
def FHM (s s' : StT) : Prop := (∀ j, (j = 3 ∨ (13 < j ∧ j ≠ 17 ∧ j ≠ 34 ∧ j ≠ 35)) → s'.1 j = s.1 j) ∧ (∀ j, ((5 < j ∧ j < 10) ∨ (13 < j ∧ j < 40) ∨ 52 < j) → s'.2.1 j = s.2.1 j) ∧ s'.2.2 = s.2.2
theorem FHC.rf (s : StT) : FHC s s := ⟨fun _ _ => rfl, fun _ _ => rfl, fun _ _ => rfl, fun _ _ => rfl⟩
theorem FHM.rf (s : StT) : FHM s s := ⟨fun _ _ => rfl, fun _ _ => rfl, rfl⟩
theorem FHC.tr {s1 s2 s3 : StT} (a : FHC s1 s2) (b : FHC s2 s3) : FHC s1 s3 := ⟨fun j h => (b.1 j h).trans (a.1 j h), fun j h => (b.2.1 j h).trans (a.2.1 j h), fun j h => (b.2.2.1 j h).trans (a.2.2.1 j h), fun j h => (b.2.2.2 j h).trans (a.2.2.2 j h)⟩
theorem FHM.tr {s1 s2 s3 : StT} (a : FHM s1 s2) (b : FHM s2 s3) : FHM s1 s3 := ⟨fun j h => (b.1 j h).trans (a.1 j h), fun j h => (b.2.1 j h).trans (a.2.1 j h), b.2.2.trans a.2.2⟩
theorem FOC.fh {s s' : StT} (h : FOC s s') : FHC s s' := ⟨fun j hj => h.1 j (by omega), fun j hj => h.2.1 j (by omega), h.2.2.1, h.2.2.2⟩
theorem FOM.fh {s s' : StT} (h : FOM s s') : FHM s s' := ⟨fun j hj => h.1 j (by omega), fun j hj => h.2.1 j (by omega), h.2.2⟩
theorem FKC.fh {m : Nat} {s s' : StT} (h : FKC m s s') : FHC s s' := ⟨fun j hj => h.1 j (by omega), fun j hj => h.2.1 j (by omega), fun j _ => by rw [h.2.2.2], fun j _ => by rw [h.2.2.2]⟩
theorem FKM.fh {m a : Nat} {s s' : StT} (h : FKM m a s s') : FHM s s' := ⟨fun j hj => h.1 j (by omega) (by omega), fun j hj => h.2.1 j (by omega) (by omega), h.2.2.2.2.2⟩
/-- both read a term -/
theorem readT2 {n : Nat} (hn : 100000 ≤ n) {D : HD} {sC sM : StT} {tn gn : Nat} {bt : Nat → Nat} (hH : HS D sC sM) (hC : TxC sC tn bt) (hM : TxM sM tn bt) (hg : gn ≤ 20) : ∃ r c1 m1 m2, f_X3_wholeTerm n sC (nI gn) = some (r, c1) ∧ f_X12_beginText n sM 1 = some m1 ∧ FOC sC c1 ∧ FOM sM m1 ∧
    ((∃ i D' e mr, r = nI i ∧ f_X12_readTerm n (uF m1 34 0) (nI gn) = some (nI 0, mr) ∧ mr.1 10 = 0 ∧ f_X12_look n mr = some (256, m2) ∧ c1.1 10 = 0 ∧ m2.1 10 = 0 ∧ c1.1 11 = -1 ∧ HS D' c1 m2 ∧ Gd D D' ∧ FOM m1 m2 ∧ c1.1 8 = nI (i + 1) ∧ i + 1 ≤ 1600 ∧ TR c1 m2 D'.1.1 41 i 0 gn e)
    ∨ (∃ D' x mr y m3, f_X12_readTerm n (uF m1 34 0) (nI gn) = some (x, mr) ∧ RX D' c1 m2 ∧ Gd D D' ∧ FOM m1 m2 ∧ ((¬ mr.1 10 = 0 ∧ m2 = mr) ∨ (mr.1 10 = 0 ∧ f_X12_look n mr = some (y, m3) ∧ y ≠ 256 ∧ f_X12_fail n m3 2 (m3.1 6) = some (0, m2))))) := by
  obtain ⟨c1, m1, ec1, em1, hR, fC1, fM1, _⟩ := begin2 (n := n) hH hC hM true
  have hX3 := hC.1
  have hR' : RS (true, tn, bt) D 0 0 (uF c1 8 0) (uF m1 34 0) := hR.mvT (fun j hj => by simp only [uF_1]; rw [if_neg hj]) (fun _ _ => rfl) rfl (fun j hj => by simp only [uF_1]; rw [if_neg (by omega)]) (fun _ _ => rfl)
  obtain ⟨r, c2, ec2, hO⟩ := lvT_all hn 65 (true, tn, bt) D 0 0 gn n 0 0 (uF c1 8 0) (uF m1 34 0) hR' rfl rfl (by omega) (by omega) (by omega) (by omega) (by show tn < n + 0; omega)
  have hw : ∀ c3, f_X3_expect n c2 0 = some c3 → f_X3_wholeTerm n sC (nI gn) = some (r, c3) := by
    intro c3 e3
    unfold f_X3_wholeTerm f_X7_drop_T0
    rw [show f_X3_begin n sC 1 = some c1 from ec1, Option.bind_some, Option.bind_some]
    rw [show f_X3_readTerm n (uF c1 8 0) (nI gn) = some (r, c2) from ec2, Option.bind_some]
    simp only []
    rw [e3, Option.bind_some]
  have f8 : FOC c1 (uF c1 8 0) := ⟨fun j hj => by simp only [uF_1]; rw [if_neg (by omega)], fun _ _ => rfl, fun _ _ => rfl, fun _ _ => rfl⟩
  have f34 : FOM m1 (uF m1 34 0) := ⟨fun j hj => by simp only [uF_1]; rw [if_neg (by omega)], fun _ _ => rfl, rfl⟩
  rcases hO with ⟨i, D', p', m2, fo', e, hr, _, h8, h34, hT, hR2, hG, hp, hie, h2e, fC2, fM2, hfo, hrun⟩ | ⟨D', m2, hX, hG, fC2, fM2, hrun⟩
  · have hpn := hR2.2.1
    have hpn : p' ≤ tn := hpn
    have erd : f_X12_readTerm n (uF m1 34 0) (nI gn) = some (nI 0, m2) := hrun _ (upT_end hR2.1.2.2.2.2.2.2)
    rcases end2 hn hR2 with ⟨c3, m3, ec3, em3, hH3, z1, z2, fC3, z3, fM3⟩ | ⟨c3, y, m3, m4, ec3, em3, hy, ef, hX, fC3, fM3⟩
    · refine ⟨r, c3, m1, m3, hw c3 ec3, em1, ((fC1.tr f8).tr fC2.fo).tr fC3.fo, fM1, Or.inl ⟨i, D', e, m2, hr, erd, hR2.1.2.2.2.2.2.2, em3, z1, z2, z3, hH3, hG, (f34.tr fM2.fo).tr (fM3 0).fo, ?_, by omega, ?_⟩⟩
      · rw [fC3.1 8 (by decide)]; exact h8
      · exact hT.mv (Nat.le_refl _) (fun j r h1 h2 _ => by rw [fC3.2.1 j (by omega)]) (fun j r h1 h2 _ _ => by rw [(fM3 0).2.1 j (by omega)])
    · refine ⟨r, c3, m1, m4, hw c3 ec3, em1, ((fC1.tr f8).tr fC2.fo).tr fC3.fo, fM1, Or.inr ⟨D', nI 0, m2, y, m3, erd, hX, hG, (f34.tr fM2.fo).tr (fM3 0).fo, Or.inr ⟨hR2.1.2.2.2.2.2.2, em3, hy, ef⟩⟩⟩
  · refine ⟨r, c2, m1, m2, hw c2 (expect_deadC hX.c0 (by decide)), em1, (fC1.tr f8).tr fC2.fo, fM1, Or.inr ⟨D', -1, m2, 0, m2, hrun, hX, hG, f34.tr fM2.fo, Or.inl ⟨hX.m0, rfl⟩⟩⟩
theorem copyC {n : Nat} {s0 : StT} {gn : Nat} {x1 x2 : Int32} (hg : gn ≤ 20) : ∀ (d i fu : Nat) (s : StT), i + d = gn → d < fu → s.1 = s0.1 → (∀ j, j ≠ 40 → s.2.1 j = s0.2.1 j) → s.2.2 = s0.2.2 → (∀ r, r < i → s.2.1 40 r = s0.2.1 0 r) → ∃ s', f_X0_accepts_1_10 n fu s x1 x2 (nI gn) (nI i) = ((f_X0_isProof n s' x1 x2 (nI gn) 0).bind fun q54 => (if isZ q54.1 = true then some (q54.1, q54.2) else none)) ∧ s'.1 = s0.1 ∧ (∀ j, j ≠ 40 → s'.2.1 j = s0.2.1 j) ∧ s'.2.2 = s0.2.2 ∧ ∀ r, r < gn → s'.2.1 40 r = s0.2.1 0 r := by
  intro d
  induction d with
  | zero =>
    intro i fu s hi hfu e1 e2 e3 e4
    obtain ⟨fu, rfl⟩ : ∃ z, fu = z + 1 := ⟨fu - 1, by omega⟩
    refine ⟨s, ?_, e1, e2, e3, fun r hr => e4 r (by omega)⟩
    rw [f_X0_accepts_1_10, if_pos ((nI_leI (by omega) (by omega)).mpr (by omega))]
  | succ d ih =>
    intro i fu s hi hfu e1 e2 e3 e4
    obtain ⟨fu, rfl⟩ : ∃ z, fu = z + 1 := ⟨fu - 1, by omega⟩
    rw [f_X0_accepts_1_10, if_neg (fun e => absurd ((nI_leI (by omega) (by omega)).mp e) (by omega)), if_neg (show ¬ (20 : Int32) ≤ nI i from fun e => absurd ((nI_leI (a := 20) (by omega) (by omega)).mp e) (by omega)), if_neg (show ¬ (60 : Int32) ≤ nI i from fun e => absurd ((nI_leI (a := 60) (by omega) (by omega)).mp e) (by omega)), inB_nI (show i < 20 by omega) (by omega), if_pos rfl, inB_nI (show i < 60 by omega) (by omega), if_pos rfl, nI_cl (by omega), nI_1]
    refine ih (i + 1) fu _ (by omega) (by omega) e1 (fun j hj => ?_) e3 (fun r hr => ?_)
    · simp only [uA_21]; rw [if_neg hj]; exact e2 j hj
    · simp only [uA_21, if_true, upd_j, nI_cl (show i < 2 ^ 31 by omega)]
      by_cases c : r = i
      · rw [if_pos c, c, e2 0 (by decide)]
      · rw [if_neg c]; exact e4 r (by omega)
theorem copyM {n : Nat} {s0 : StT} {gn : Nat} {x1 x2 : Int32} (hg : gn ≤ 20) (h16 : s0.1 16 = nI gn) : ∀ (d i fu : Nat) (s : StT), i + d = gn → d < fu → s.1 = s0.1 → (∀ j, j ≠ 48 → s.2.1 j = s0.2.1 j) → s.2.2 = s0.2.2 → (∀ r, r < i → s.2.1 48 r = s0.2.1 9 r) → ∃ s', f_X12_check_92 n fu s x1 x2 (nI i) = ((f_X12_isProof n s' x2 x1).bind fun q121 => (if q121.1 = 0 then (some ((0 : Int32), q121.2)) else (some ((1 : Int32), q121.2)))) ∧ s'.1 = s0.1 ∧ (∀ j, j ≠ 48 → s'.2.1 j = s0.2.1 j) ∧ s'.2.2 = s0.2.2 ∧ ∀ r, r < gn → s'.2.1 48 r = s0.2.1 9 r := by
  intro d
  induction d with
  | zero =>
    intro i fu s hi hfu e1 e2 e3 e4
    obtain ⟨fu, rfl⟩ : ∃ z, fu = z + 1 := ⟨fu - 1, by omega⟩
    refine ⟨s, ?_, e1, e2, e3, fun r hr => e4 r (by omega)⟩
    rw [f_X12_check_92, e1, h16, if_pos ((nI_leI (by omega) (by omega)).mpr (by omega))]
  | succ d ih =>
    intro i fu s hi hfu e1 e2 e3 e4
    obtain ⟨fu, rfl⟩ : ∃ z, fu = z + 1 := ⟨fu - 1, by omega⟩
    rw [f_X12_check_92, e1, h16, if_neg (fun e => absurd ((nI_leI (by omega) (by omega)).mp e) (by omega)), inB_nI (show i < 20 by omega) (by omega), if_pos rfl, inB_nI (show i < 80 by omega) (by omega), if_pos rfl, nI_cl (by omega), nI_1]
    refine ih (i + 1) fu _ (by omega) (by omega) e1 (fun j hj => ?_) e3 (fun r hr => ?_)
    · simp only [uA_21]; rw [if_neg hj]; exact e2 j hj
    · simp only [uA_21, if_true, upd_j, nI_cl (show i < 2 ^ 31 by omega)]
      by_cases c : r = i
      · rw [if_pos c, c, e2 9 (by decide)]
      · rw [if_neg c]; exact e4 r (by omega)
theorem op_check {n : Nat} (hn : 100000 ≤ n) {D : HD} {sC sM : StT} {tn gn fn : Nat} {bt gv kd fa fb : Nat → Nat} (hH : HS D sC sM) (hC : TxC sC tn bt) (hM : TxM sM tn bt) (hG : RelG sC sM gn gv D.1.1) (hF1 : CFF1 sC fn kd fa fb) (hpl : sC.1 11 = sM.1 12) (x : Int32) : ∃ r sC' sM' D', f_X11_check n sC x = some (r, sC') ∧ f_X12_check n sM x = some (r, sM') ∧ HS D' sC' sM' ∧ Gd D D' ∧ sC'.1 11 = sM'.1 12 ∧ (∃ fn kd fa fb, CFF1 sC' fn kd fa fb) ∧ FHC sC sC' ∧ FHM sM sM' := by
  obtain ⟨hgn, g28, g16, ggv⟩ := hG
  unfold f_X11_check f_X12_check
  rcases both_has (n := n) hH.1.1 hH.2.1.1 hH.2.2.1.2.1 x with ⟨f, hf, rfl, ehC, ehM⟩ | ⟨ehC, ehM⟩
  · rw [ehC, ehM, Option.bind_some, Option.bind_some]
    simp only []
    rw [if_neg (show ¬ (1 : Int32) = 0 by decide), if_neg (show ¬ (1 : Int32) = 0 by decide), g28]
    obtain ⟨r, c1, m1, m2, ew, eb, fC, fM1, hO⟩ := readT2 hn hH hC hM hgn
    rw [ew, eb, Option.bind_some, Option.bind_some]
    simp only []
    rw [show (uF m1 34 0).1 16 = nI gn by show m1.1 16 = _; rw [fM1.1 16 (by decide)]; exact g16]
    rcases hO with ⟨i, D', e, mr, hr, erd, zr, elk, z1, z2, z3, hH', hGd, fM2, h8, hi, hT⟩ | ⟨D', x, mr, y, m3, erd, hX, hGd, fM2, hcase⟩
    · rw [if_pos z1, erd, Option.bind_some]
      simp only []
      rw [if_pos zr, elk, Option.bind_some]
      simp only []
      rw [if_true]
      unfold f_X12_check_56 f_X12_check_72
      rw [if_pos z2, if_pos (show (uF m2 12 (-1)).1 10 = 0 from z2)]
      have c128 : c1.1 28 = nI gn := by rw [fC.1 28 (by decide)]; exact g28
      have hF1' : CFF1 c1 fn kd fa fb := by
        unfold CFF1 at hF1 ⊢
        rw [fC.1 25 (by decide), fC.2.1 35 (by decide), fC.2.1 36 (by decide), fC.2.1 37 (by decide), fC.2.1 38 (by decide), fC.2.1 39 (by decide)]
        exact hF1
      obtain ⟨c2, ed, ed1, ed2, ed3, ed4⟩ := dropF1 hn hF1'
      obtain ⟨c3, ec, ec1, ec2, ec3, ec4⟩ := copyC (n := n) (s0 := c2) (x1 := r) (x2 := nI f) hgn gn 0 n c2 (by omega) (by omega) rfl (fun _ _ => rfl) rfl (fun r hr => by omega)
      obtain ⟨m4, em, em1, em2, em3, em4⟩ := copyM (n := n) (s0 := uF m2 12 (-1)) (x1 := nI f) (x2 := nI 0) hgn (by show m2.1 16 = _; rw [fM2.1 16 (by decide), fM1.1 16 (by decide)]; exact g16) gn 0 n (uF m2 12 (-1)) (by omega) (by omega) rfl (fun _ _ => rfl) rfl (fun r hr => by omega)
      have ea : f_X0_accepts_1 n c1 r (nI f) (nI gn) = ((f_X0_isProof n c3 r (nI f) (nI gn) 0).bind fun q54 => (if isZ q54.1 = true then some (q54.1, q54.2) else none)) := by
        unfold f_X0_accepts_1
        rw [ed, Option.bind_some]
        exact ec
      have hw := hH'.2.2.1
      have hgr := hGd.1
      have hlt := hT.lt
      have hv : ∀ j, j < gn → gv j < D'.1.1 := fun j hj => by have := (ggv j hj).2.2; omega
      have f13 : FKC 0 c1 c3 := ⟨fun j hj => by rw [ec1]; exact ed2 j hj, fun j hj => by rw [ec2 j (by omega)]; exact ed3 j (by omega), fun i hi => by omega, by rw [ec3]; exact ed4⟩
      have kc : KC c1 D'.1 (0, kd, fa, fb) gv gn c3 := by
        refine ⟨?_, ?_, fun j hj => ?_, by rw [f13.1 8 (by decide)], fun j a b => by rw [f13.2.1 j (by omega)]⟩
        · have := hH'.1
          unfold CFt CFF0 at this ⊢
          rw [f13.1 6 (by decide), f13.2.1 2 (by decide), f13.2.1 3 (by decide), f13.2.1 4 (by decide), f13.2.1 5 (by decide), f13.2.1 6 (by decide)]
          exact this
        · unfold CF1
          unfold CFF1 at ed1 ⊢
          rw [ec1, ec2 35 (by decide), ec2 36 (by decide), ec2 37 (by decide), ec2 38 (by decide), ec2 39 (by decide)]
          exact ed1
        · rw [ec4 j hj, ed3 0 (by decide), fC.2.1 0 (by decide)]; exact (ggv j hj).1
      have pv : PV D'.1 (0, kd, fa, fb) gv gn := ⟨⟨by show 0 ≤ 1600; omega, fun g hg => absurd hg (by simp), fun a b ha => absurd ha (by simp)⟩, fun j hj => Or.inl (hv j hj)⟩
      obtain ⟨rr, c4, q', s1, s2, s3, s4, s5, s6, s7⟩ := (simAll hn hw (sC0 := c1) (sM0 := m2) (N := i + 1) h8 (by omega) 41).1 130 (by omega) i 0 gn e (0, kd, fa, fb) gv f 0 c3 hT (by omega) kc pv (Or.inl (by omega)) (by omega) (by omega) (by show 0 + (e - 0) ≤ 1600; omega)
      have ea2 : f_X0_accepts_1 n c1 r (nI f) (nI gn) = some (mI rr, c4) := by
        rw [ea, hr, show f_X0_isProof n c3 (nI i) (nI f) (nI gn) 0 = some (mI rr, c4) from s1, Option.bind_some]
        simp only []
        rw [if_pos (show isZ (mI rr) = true by cases rr <;> rfl)]
      rw [c128, ea2, Option.bind_some]
      simp only []
      rw [mI_if, show (0 : Int32) = nI 0 from rfl, em]
      have hS : KM m2 D'.1 (0, kd, fa, fb) gv gn (uF (uF m4 35 0) 1 0) := by
        refine ⟨⟨?_, fun g hg => ?_⟩, ⟨rfl, fun g hg => absurd hg (by simp)⟩, fun j hj => ?_, fun j a b => ?_⟩
        · show m4.1 0 = _
          rw [em1]; exact hH'.2.1.1
        · show m4.2.1 0 g = _ ∧ m4.2.1 1 g = _ ∧ m4.2.1 2 g = _
          rw [em2 0 (by decide), em2 1 (by decide), em2 2 (by decide)]
          exact hH'.2.1.2 g hg
        · show m4.2.1 48 j = _
          rw [em4 j hj]
          show m2.2.1 9 j = _
          rw [fM2.2.1 9 (by decide), fM1.2.1 9 (by decide)]; exact (ggv j hj).2.1
        · show m4.2.1 j = _
          rw [em2 j (by omega)]; rfl
      have h35 : (pu (uF (uF m4 35 0) 1 0) 0 (nI 0) (nI f)).1 35 = nI (0 + 1) := rfl
      obtain ⟨S', fo', w1, w2, w3, w4, w5⟩ := s7 (pu (uF (uF m4 35 0) 1 0) 0 (nI 0) (nI f)) 0 (-2) n (hS.push _ _ _) h35 (by
          unfold pu; simp only [uF_2, uA_21, if_true, if_neg (show ¬ (49 : Nat) = 50 by decide), if_neg (show ¬ (49 : Nat) = 51 by decide), upd_j, nI_cl (show 0 < 2 ^ 31 by omega)]) (by
          unfold pu; simp only [uF_2, uA_21, if_true, if_neg (show ¬ (50 : Nat) = 51 by decide), upd_j, nI_cl (show 0 < 2 ^ 31 by omega)]) (by
          unfold pu; simp only [uF_2, uA_21, if_true, upd_j, nI_cl (show 0 < 2 ^ 31 by omega)]; rfl) (by omega) (by omega)
      obtain ⟨fo', rfl⟩ : ∃ z, fo' = z + 1 := ⟨fo' - 1, by omega⟩
      have er : RUN n (fo' + 1) S' (mI rr) (mI rr, S') := by
        unfold RUN
        rw [f_X12_isProof_17, w2, if_pos (by decide)]
        cases rr <;> rfl
      have ep : f_X12_isProof n m4 (nI 0) (nI f) = some (mI rr, S') := by
        unfold f_X12_isProof
        rw [ask_e (s := uF (uF m4 35 0) 1 0) (a := 0) rfl (by omega), Option.bind_some]
        exact w5 _ er
      rw [ep, Option.bind_some]
      simp only []
      rw [mI_if]
      have f24 : FKM 0 0 m2 S' → FHM m2 S' := fun h => h.fh
      have fm4 : FHM m2 m4 := ⟨fun j hj => by rw [em1]; simp only [uF_1]; rw [if_neg (by omega)], fun j hj => by rw [em2 j (by omega)]; rfl, by rw [em3]; rfl⟩
      have fmp : FHM m4 (pu (uF (uF m4 35 0) 1 0) 0 (nI 0) (nI f)) := by
        refine FHM.tr (s2 := uF (uF m4 35 0) 1 0) ⟨fun j hj => by simp only [uF_1]; rw [if_neg (by omega), if_neg (by omega)], fun _ _ => rfl, rfl⟩ (FKM.pu (m := 0) (a := 0) _ _ _ (Nat.le_refl _) (by omega)).fh
      have hHm : HS D' c4 S' := by
        have hs0 : HS D' c1 (uF (uF m4 35 0) 1 0) := hH'.mv rfl rfl (fun _ _ _ => rfl) rfl (by show m4.1 0 = _; rw [em1]; rfl) (by show m4.1 2 = _; rw [em1]; rfl) (fun j hj => by show m4.2.1 j = _; rw [em2 j (by omega)]; rfl)
        exact (hs0.ck f13 (FKM.pu (m := 0) (a := 0) _ (nI 0) (nI f) (Nat.le_refl 0) (by omega))).ck (s6.lo (Nat.zero_le _)) (w3.lo (Nat.zero_le _) (Nat.le_refl _))
      refine ⟨_, c4, S', D', rfl, rfl, hHm, hGd, ?_, ⟨_, _, _, _, s4.2.1⟩, (fC.fh.tr f13.fh).tr s6.fh, (((fM1.fh.tr fM2.fh).tr fm4).tr fmp).tr w3.fh⟩
      rw [s6.1 11 (by decide), f13.1 11 (by decide), z3, w3.1 12 (by decide) (by decide)]
      show (-1 : Int32) = m4.1 12
      rw [em1]; rfl
    · have hX' := hX
      obtain ⟨hH4, cc, q1, q2, q3, q4, q5⟩ := hX'
      have hF1' : CFF1 c1 fn kd fa fb := by
        unfold CFF1 at hF1 ⊢
        rw [fC.1 25 (by decide), fC.2.1 35 (by decide), fC.2.1 36 (by decide), fC.2.1 37 (by decide), fC.2.1 38 (by decide), fC.2.1 39 (by decide)]
        exact hF1
      have efin : ∀ u, f_X12_check_56 n m2 (nI f) u = some (-10 - m2.1 10, uF m2 12 (m2.1 11)) := by
        intro u
        unfold f_X12_check_56 f_X12_check_72
        rw [if_neg hX.m0, if_neg (show ¬ (uF m2 12 (m2.1 11)).1 10 = 0 from hX.m0)]
        rfl
      rw [if_neg hX.c0, erd, Option.bind_some]
      simp only []
      refine ⟨-10 - c1.1 10, c1, uF m2 12 (m2.1 11), D', rfl, ?_, hH4.mv rfl rfl (fun _ _ _ => rfl) rfl rfl rfl (fun _ _ => rfl), hGd, q5, ⟨fn, kd, fa, fb, hF1'⟩, fC.fh, (fM1.tr fM2).fh.tr (FOM.pl _ _).fh⟩
      rcases hcase with ⟨n0, rfl⟩ | ⟨z0, elk, hy, ef⟩
      · rw [if_neg n0, efin, q3, q4]
      · rw [if_pos z0, elk, Option.bind_some]
        simp only []
        rw [if_neg hy, ef, Option.bind_some]
        simp only []
        rw [efin, q3, q4]
  · rw [ehC, ehM, Option.bind_some, Option.bind_some]
    simp only []
    rw [if_true, if_true]
    exact ⟨-1, sC, sM, D, rfl, rfl, hH, Gd.rf _, hpl, ⟨fn, kd, fa, fb, hF1⟩, FHC.rf _, FHM.rf _⟩
