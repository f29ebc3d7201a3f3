/-! ===== a whole formula; the call read ===== -/
theorem readF2 {n : Nat} (hn : 100000 ≤ n) {X : TX} {D : HD} {p o : Nat} {sC sM : StT} (h : RS X D p o sC sM) : ∃ r sC', f_X3_readBothWays n sC = some (r, sC') ∧
    ((∃ f D' p' sM', r = nI f ∧ f < D'.1.1 ∧ RS X D' p' o sC' sM' ∧ f_X12_readFormula n sM = some (nI f, sM') ∧ Gd D D' ∧ p < p' ∧ FRC sC sC' ∧ FRM 0 sM sM')
    ∨ ∃ D' sM', RX D' sC' sM' ∧ f_X12_readFormula n sM = some (-1, sM') ∧ Gd D D' ∧ FRC sC sC' ∧ FRM 0 sM sM') := by
  have hX3 := h.1.2.1.1.1
  have ho := h.1.2.2.1.1
  obtain ⟨n', hn'⟩ : ∃ q, n = q + 1 := ⟨n - 1, by omega⟩
  obtain ⟨r, k5, e5, hO⟩ := (lvAll hn 260).1 X D p o 0 n' sC (row0 sM 0 0) (h.rw0 _ _) (row0_10 (by omega)) (row0_11 (by omega)) (by omega) (by omega) (by omega)
  have hrun : ∀ res, Down n n' 0 (row0 sM 0 0) 0 res → f_X12_readFormula n sM = some res := by
    intro res hD
    have a := hD (n + 1) (by omega)
    have h10 : (row0 sM 0 0).2.1 10 0 = nI 0 := row0_10 (by omega)
    rw [f_X12_readFormula_45, inB_nI (show 0 < 400 by omega) (by omega), if_pos rfl, nI_cl (by omega), h10, if_neg (by decide), if_pos rfl, nI_1, inB_nI (show 0 + 1 < 400 by omega) (by omega), if_pos rfl, if_pos rfl] at a
    unfold f_X12_readFormula
    rw [show inB (0 : Int32) 400 = true from inB_nI (i := 0) (show 0 < 400 by omega) (by omega), if_pos rfl, if_pos rfl, show inB (1 : Int32) 400 = true from inB_nI (i := 1) (show 1 < 400 by omega) (by omega), if_pos rfl, if_pos rfl]
    have b : f_X12_readFormula_34 n (n' + 1) (row0 (row0 sM 0 0) 1 1) 1 = some res := by
      rw [f_X12_readFormula_34, if_neg (by decide), if_pos (show (row0 (row0 sM 0 0) 1 1).1 10 = 0 from h.1.2.2.2.2.2.2)]
      exact a
    rw [← hn'] at b
    exact b
  refine ⟨r, k5, e5, ?_⟩
  rcases hO with ⟨f, D', p', m5, fo2, hr, hf, hR5, h17, hG, hpp, fC5, fM5, hfo5, hU⟩ | ⟨D', m5, hX5, hG, fC5, fM5, hU⟩
  · refine Or.inl ⟨f, D', p', m5, hr, hf, hR5, hrun _ (hU _ ?_), hG, by omega, fC5, (row0_fr (by omega) (by omega)).tr fM5⟩
    rw [← h17]
    exact up_end hR5.1.2.2.2.2.2.2
  · exact Or.inr ⟨D', m5, hX5, hrun _ hU, hG, fC5, (row0_fr (by omega) (by omega)).tr fM5⟩
/-- a formula is not read after a fault -/
theorem dead4 {n : Nat} {s : StT} (h : ¬ s.1 10 = 0) (d : Nat) : (rec_RF n (d + 1)).2.2.2.2 s = some (-1, s) := by
  show g_X3_readNot n _ _ _ _ _ s = _
  unfold g_X3_readNot f_X3_readLeaf f_X8_start
  rw [look_deadC h, Option.bind_some]
  simp only []
  rw [if_neg (by decide), if_neg (by decide), if_neg (by decide), if_neg (by decide), if_neg (by decide), Option.bind_some]
  simp only []
  rw [fail_deadC h, Option.bind_some, Option.bind_some]
theorem deadF {n : Nat} (hn : 100000 ≤ n) {s : StT} (h : ¬ s.1 10 = 0) : f_X3_readBothWays n s = some (-1, s) := by
  obtain ⟨n', hn'⟩ : ∃ q, n = q + 1 := ⟨n - 1, by omega⟩
  have e4 := dead4 (n := n) h 255
  have eL : ∀ a b c d e, f_X3_readAnd_7 n a b c d e n s (-1) 0 = some (-1, s) := by
    intro a b c d e
    have : f_X3_readAnd_7 n a b c d e (n' + 1) s (-1) 0 = some (-1, s) := by
      rw [f_X3_readAnd_7, look_deadC h, Option.bind_some]
      simp only []
      rw [if_neg (show ¬ (-1 : Int32) = 38 by decide), ite_self]
    rw [← hn'] at this; exact this
  have eO : ∀ a b c d e, f_X3_readOr_7 n a b c d e n s (-1) 0 = some (-1, s) := by
    intro a b c d e
    have : f_X3_readOr_7 n a b c d e (n' + 1) s (-1) 0 = some (-1, s) := by
      rw [f_X3_readOr_7, look_deadC h, Option.bind_some]
      simp only []
      rw [if_neg (show ¬ (-1 : Int32) = 124 by decide), ite_self]
    rw [← hn'] at this; exact this
  have e3 : (rec_RF n 257).2.2.2.1 s = some (-1, s) := by
    show g_X3_readAnd n (rec_RF n 256).1 (rec_RF n 256).2.1 (rec_RF n 256).2.2.1 (rec_RF n 256).2.2.2.1 (rec_RF n 256).2.2.2.2 s = _
    unfold g_X3_readAnd
    rw [e4, Option.bind_some]
    exact eL _ _ _ _ _
  have e2 : (rec_RF n 258).2.2.1 s = some (-1, s) := by
    show g_X3_readOr n (rec_RF n 257).1 (rec_RF n 257).2.1 (rec_RF n 257).2.2.1 (rec_RF n 257).2.2.2.1 (rec_RF n 257).2.2.2.2 s = _
    unfold g_X3_readOr
    rw [e3, Option.bind_some]
    exact eO _ _ _ _ _
  have e1 : (rec_RF n 259).2.1 s = some (-1, s) := by
    show g_X3_readImplication n (rec_RF n 258).1 (rec_RF n 258).2.1 (rec_RF n 258).2.2.1 (rec_RF n 258).2.2.2.1 (rec_RF n 258).2.2.2.2 s = _
    unfold g_X3_readImplication
    rw [e2, Option.bind_some]
    simp only []
    rw [look_deadC h, Option.bind_some]
    simp only []
    rw [if_neg (by decide)]
  show g_X3_readBothWays n (rec_RF n 259).1 (rec_RF n 259).2.1 (rec_RF n 259).2.2.1 (rec_RF n 259).2.2.2.1 (rec_RF n 259).2.2.2.2 s = _
  unfold g_X3_readBothWays
  rw [e1, Option.bind_some]
  simp only []
  rw [look_deadC h, Option.bind_some]
  simp only []
  rw [if_neg (by decide)]
/-- the end of the text -/
theorem end2 {n : Nat} (hn : 100000 ≤ n) {X : TX} {D : HD} {p o : Nat} {sC sM : StT} (h : RS X D p o sC sM) :
    (∃ sC' sM', f_X3_expect n sC 0 = some sC' ∧ f_X12_look n sM = some (256, sM') ∧ HS D sC' sM' ∧ sC'.1 10 = 0 ∧ sM'.1 10 = 0 ∧ FRC sC sC' ∧ sC'.1 11 = -1 ∧ ∀ d, FRM d sM sM')
    ∨ ∃ sC' y m1 sM', f_X3_expect n sC 0 = some sC' ∧ f_X12_look n sM = some (y, m1) ∧ y ≠ 256 ∧ f_X12_fail n m1 2 (m1.1 6) = some (0, sM') ∧ RX D sC' sM' ∧ FRC sC sC' ∧ ∀ d, FRM d sM sM' := by
  have hbt : ∀ i, i < X.2.1 → X.2.2 i < 256 := fun i hi => (h.1.2.1.1.2.2 i hi).2
  have hmem := tkp_0 _ (tk_mem (tm := X.1) hbt (skX X p))
  unfold f_X3_expect f_X8_start f_X8_take
  rcases look2 hn h with ⟨c1, m1, ec, em, hB, hT, fC, fM, e17, e2⟩ | ⟨c1, m1, ec, em, hX, fC, fM, e17, e2⟩
  · rw [ec, Option.bind_some]
    simp only []
    by_cases c : (tkX X (skX X p)).1 = 0
    · left
      rw [if_pos c, Option.bind_some]
      refine ⟨_, m1, rfl, by rw [em]; exact congrArg (fun z => some (z, m1)) (hmem.mp c), hB.1.mv rfl rfl (fun _ _ _ => rfl) rfl rfl rfl (fun _ _ => rfl), hB.2.2.2.2.2.1, hB.2.2.2.2.2.2, fC.tr (FRC.tk _ _), hB.2.2.1.2, fM⟩
    · right
      rw [if_neg c, Option.bind_some]
      unfold f_X3_fail f_X12_fail
      simp only []
      rw [if_pos hB.2.2.2.2.2.1, Option.bind_some]
      refine ⟨_, _, m1, uF (uF m1 10 2) 11 (m1.1 6), rfl, em, fun e => c (hmem.mpr e), by rw [if_pos hB.2.2.2.2.2.2], HS.fault hB.1 (c := 2) (by decide) (by decide) (by rw [hT.2.2.2.2.2.1, hT.2.2.2.2.2.2.2.2.1]), fC.tr (FRC.fl _ _ _), fun d => (fM d).tr (FRM.fl _ _ _ _)⟩
  · right
    rw [ec, Option.bind_some]
    simp only []
    rw [if_neg (by decide), Option.bind_some, fail_deadC hX.c0, Option.bind_some]
    refine ⟨c1, _, m1, m1, rfl, em, by decide, ?_, hX, fC, fM⟩
    unfold f_X12_fail
    rw [if_neg hX.m0]
/-- what a call that reads leaves as it is -/
def FOC (s s' : StT) : Prop := (∀ j, (j = 0 ∨ 11 < j) → s'.1 j = s.1 j) ∧ (∀ j, (j < 2 ∨ 11 < j) → s'.2.1 j = s.2.1 j) ∧ (∀ j, j ≠ 0 → s'.2.2.1 j = s.2.2.1 j) ∧ ∀ j, j ≠ 0 → s'.2.2.2 j = s.2.2.2 j
def FOM (s s' : StT) : Prop := (∀ j, (j = 1 ∨ j = 3 ∨ (13 < j ∧ j ≠ 17 ∧ j ≠ 34)) → s'.1 j = s.1 j) ∧ (∀ j, ((5 < j ∧ j < 10) ∨ (13 < j ∧ j < 40) ∨ 47 < j) → s'.2.1 j = s.2.1 j) ∧ s'.2.2 = s.2.2
theorem FRC.fo {s s' : StT} (h : FRC s s') : FOC s s' := ⟨fun j hj => h.1 j (by omega), fun j hj => h.2.1 j (by omega), h.2.2.1, h.2.2.2⟩
theorem FRM.fo {d : Nat} {s s' : StT} (h : FRM d s s') : FOM s s' := ⟨fun j hj => h.1 j (by omega), fun j hj => h.2.1 j (by omega), h.2.2.2⟩
theorem FOC.tr {s1 s2 s3 : StT} (a : FOC s1 s2) (b : FOC s2 s3) : FOC s1 s3 := ⟨fun j h => (b.1 j h).trans (a.1 j h), fun j h => (b.2.1 j h).trans (a.2.1 j h), fun j h => (b.2.2.1 j h).trans (a.2.2.1 j h), fun j h => (b.2.2.2 j h).trans (a.2.2.2 j h)⟩
theorem FOM.tr {s1 s2 s3 : StT} (a : FOM s1 s2) (b : FOM s2 s3) : FOM s1 s3 := ⟨fun j h => (b.1 j h).trans (a.1 j h), fun j h => (b.2.1 j h).trans (a.2.1 j h), b.2.2.trans a.2.2⟩
/-- both sides begin to read -/
theorem begin2 {n : Nat} {D : HD} {sC sM : StT} {tn : Nat} {bt : Nat → Nat} (hH : HS D sC sM) (hC : TxC sC tn bt) (hM : TxM sM tn bt) (tm : Bool) : ∃ c1 m1, f_X3_begin n sC (mI tm) = some c1 ∧ f_X12_beginText n sM (mI tm) = some m1 ∧ RS (tm, tn, bt) D 0 0 c1 m1 ∧ FOC sC c1 ∧ FOM sM m1 ∧ m1.1 34 = sM.1 34 := by
  have hz : isZ (mI tm) = true := by cases tm <;> rfl
  unfold f_X3_begin f_X8_begin f_X12_beginText
  rw [if_pos hz, if_pos hz, Option.bind_some]
  refine ⟨_, _, rfl, rfl, ⟨⟨hH.mv rfl rfl (fun _ _ _ => rfl) rfl rfl rfl (fun _ _ => rfl), ⟨⟨hC.1, hC.2.1, hC.2.2⟩, ⟨hM.1, hM.2.1, hM.2.2⟩, rfl, rfl⟩, ⟨by decide, rfl⟩, rfl, rfl, rfl, rfl⟩, Nat.zero_le _, Or.inl ⟨rfl, rfl, rfl, rfl⟩⟩, ⟨fun j hj => ?_, fun _ _ => rfl, fun _ _ => rfl, fun _ _ => rfl⟩, ⟨fun j hj => ?_, fun _ _ => rfl, rfl⟩, rfl⟩
  · simp only [uF_1]
    rw [if_neg (by omega), if_neg (by omega), if_neg (by omega), if_neg (by omega), if_neg (by omega), if_neg (by omega)]
  · simp only [uF_1]
    rw [if_neg (by omega), if_neg (by omega), if_neg (by omega), if_neg (by omega), if_neg (by omega)]
theorem FOM.pl (s : StT) (x : Int32) : FOM s (uF s 12 x) := ⟨fun j hj => by simp only [uF_1]; rw [if_neg (by omega)], fun _ _ => rfl, rfl⟩
theorem op_read {n : Nat} (hn : 100000 ≤ n) {D : HD} {sC sM : StT} {tn : Nat} {bt : Nat → Nat} (hH : HS D sC sM) (hC : TxC sC tn bt) (hM : TxM sM tn bt) : ∃ r sC' sM' D', f_X11_read n sC = some (r, sC') ∧ f_X12_read n sM = some (r, sM') ∧ HS D' sC' sM' ∧ Gd D D' ∧ sC'.1 11 = sM'.1 12 ∧ FOC sC sC' ∧ FOM sM sM' := by
  obtain ⟨c1, m1, ec1, em1, hR, fC1, fM1, _⟩ := begin2 (n := n) hH hC hM false
  have ec1 : f_X3_begin n sC 0 = some c1 := ec1
  have em1 : f_X12_beginText n sM 0 = some m1 := em1
  obtain ⟨r, c2, ec2, hO⟩ := readF2 hn hR
  unfold f_X11_read f_X3_wholeFormula f_X12_read f_X12_read_37 f_X12_read_53
  rw [ec1, em1, Option.bind_some, Option.bind_some, ec2, Option.bind_some]
  simp only []
  rcases hO with ⟨f, D', p', m2, hr, hf, hR2, em2, hG, hpp, fC2, fM2⟩ | ⟨D', m2, hX2, em2, hG, fC2, fM2⟩
  · rw [em2, Option.bind_some]
    simp only []
    rw [if_pos hR2.1.2.2.2.2.2.2]
    rcases end2 hn hR2 with ⟨c3, m3, ec3, em3, hH3, z1, z2, fC3, z3, fM3⟩ | ⟨c3, y, m3, m4, ec3, em3, hy, ef, hX, fC3, fM3⟩
    · rw [ec3, Option.bind_some, Option.bind_some]
      simp only []
      rw [if_pos z1, em3, Option.bind_some]
      simp only []
      rw [if_true, if_pos z2, if_pos (show (uF m3 12 (-1)).1 10 = 0 from z2), hr]
      exact ⟨_, _, _, D', rfl, rfl, hH3.mv rfl rfl (fun _ _ _ => rfl) rfl rfl rfl (fun _ _ => rfl), hG, z3, (fC1.tr fC2.fo).tr fC3.fo, ((fM1.tr fM2.fo).tr (fM3 0).fo).tr (FOM.pl _ _)⟩
    · have hX' := hX
      obtain ⟨hH4, cc, q1, q2, q3, q4, q5⟩ := hX'
      rw [ec3, Option.bind_some, Option.bind_some]
      simp only []
      rw [if_neg hX.c0, em3, Option.bind_some]
      simp only []
      rw [if_neg hy, ef, Option.bind_some]
      simp only []
      rw [if_neg hX.m0, if_neg (show ¬ (uF m4 12 (m4.1 11)).1 10 = 0 from hX.m0), show (uF m4 12 (m4.1 11)).1 10 = m4.1 10 from rfl, q3, q4]
      exact ⟨_, _, _, D', rfl, rfl, hH4.mv rfl rfl (fun _ _ _ => rfl) rfl rfl rfl (fun _ _ => rfl), hG, q5, (fC1.tr fC2.fo).tr fC3.fo, ((fM1.tr fM2.fo).tr (fM3 0).fo).tr (FOM.pl _ _)⟩
  · have hX' := hX2
    obtain ⟨hH4, cc, q1, q2, q3, q4, q5⟩ := hX'
    rw [em2, Option.bind_some]
    simp only []
    rw [if_neg hX2.m0, expect_deadC hX2.c0 (by decide), Option.bind_some, Option.bind_some]
    simp only []
    rw [if_neg hX2.c0, if_neg hX2.m0, if_neg (show ¬ (uF m2 12 (m2.1 11)).1 10 = 0 from hX2.m0), show (uF m2 12 (m2.1 11)).1 10 = m2.1 10 from rfl, q3, q4]
    exact ⟨_, _, _, D', rfl, rfl, hH4.mv rfl rfl (fun _ _ _ => rfl) rfl rfl rfl (fun _ _ => rfl), hG, q5, fC1.tr fC2.fo, (fM1.tr fM2.fo).tr (FOM.pl _ _)⟩
