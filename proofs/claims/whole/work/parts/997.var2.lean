/-! ===== a new variable ===== -/
def vFin (n : Nat) (st : StT) : Option (Int32 × StT) := if inB (st.1 2) 24 = true then ((f_X12_add n (uA st 4 (st.1 2) (st.1 7)) (2 : Int32) ((uA st 4 (st.1 2) (st.1 7)).1 2) (0 : Int32)).bind fun q209 => (if inB ((uA st 4 (st.1 2) (st.1 7)).1 2) 24 = true then (some ((((uF (uA q209.2 5 ((uA st 4 (st.1 2) (st.1 7)).1 2) q209.1) 2 (((uA q209.2 5 ((uA st 4 (st.1 2) (st.1 7)).1 2) q209.1).1 2) + (1 : Int32))).1 0) - (1 : Int32)), (uF (uA q209.2 5 ((uA st 4 (st.1 2) (st.1 7)).1 2) q209.1) 2 (((uA q209.2 5 ((uA st 4 (st.1 2) (st.1 7)).1 2) q209.1).1 2) + (1 : Int32))))) else none)) else none
theorem copy_loop {n : Nat} {sM : StT} {tn : Nat} {bt : Nat → Nat} (hT : TxM sM tn bt) {q K v : Nat} (h2 : sM.1 2 = nI v) (h6 : sM.1 6 = nI q) (h7 : sM.1 7 = nI K) (hK : q + K ≤ tn) (hv : v < 24) (hK6 : K ≤ 6) : ∀ (d i fu : Nat) (s : StT), i + d = K → d < fu → s.1 = sM.1 → (∀ j, j ≠ 3 → s.2.1 j = sM.2.1 j) → s.2.2 = sM.2.2 → (∀ m, m < 6 * v → s.2.1 3 m = sM.2.1 3 m) → (∀ j, j < i → s.2.1 3 (6 * v + j) = sb (bt (q + j))) →
    ∃ s', f_X12_variableOf_142 n fu s (nI i) = vFin n s' ∧ s'.1 = sM.1 ∧ (∀ j, j ≠ 3 → s'.2.1 j = sM.2.1 j) ∧ s'.2.2 = sM.2.2 ∧ (∀ m, m < 6 * v → s'.2.1 3 m = sM.2.1 3 m) ∧ ∀ j, j < K → s'.2.1 3 (6 * v + j) = sb (bt (q + j)) := by
  have hl3 := hT.1
  intro d
  induction d with
  | zero =>
    intro i fu s hi hfu e1 e2 e3 e4 e5
    obtain ⟨fu, rfl⟩ : ∃ q, fu = q + 1 := ⟨fu - 1, by omega⟩
    refine ⟨s, ?_, e1, e2, e3, e4, fun j hj => e5 j (by omega)⟩
    rw [f_X12_variableOf_142, if_pos (by rw [e1, h7]; exact (nI_leI (by omega) (by omega)).mpr (by omega))]
    rfl
  | succ d ih =>
    intro i fu s hi hfu e1 e2 e3 e4 e5
    obtain ⟨fu, rfl⟩ : ∃ q, fu = q + 1 := ⟨fu - 1, by omega⟩
    have htx := hT.2.2 (q + i) (by omega)
    rw [f_X12_variableOf_142, e1, h7, h6, h2, if_neg (fun e => absurd ((nI_leI (by omega) (by omega)).mp e) (by omega)), six v hv, nI_add, nI_add, inB_nI (show q + i < 3000 by omega) (by omega), inB_nI (show 6 * v + i < 144 by omega) (by omega), nI_cl (by omega), e2 6 (by decide), htx.1, nI_1]
    simp only [if_true]
    refine ih (i + 1) fu _ (by omega) (by omega) e1 (fun j hj => ?_) e3 (fun m hm => ?_) (fun j hj => ?_)
    · simp only [uA_21, hj, if_false]; exact e2 j hj
    · simp only [uA_21, if_true, upd_j, nI_cl (show 6 * v + i < 2 ^ 31 by omega)]
      rw [if_neg (by omega)]; exact e4 m hm
    · simp only [uA_21, if_true, upd_j, nI_cl (show 6 * v + i < 2 ^ 31 by omega)]
      by_cases c : j = i
      · rw [if_pos (by omega), c]
      · rw [if_neg (by omega)]; exact e5 j (by omega)
theorem upL_j (f : Nat → Int64) (k : Nat) (v : Int64) (j : Nat) : vp_updL f k v j = if j = k then v else f j := rfl
/-- a new variable goes to its chain without a look -/
theorem addV_eq {n : Nat} {s : StT} {v : Int32} (h : s.1 7 = v) (K : Int32 × StT → Option (Int32 × StT)) : ((f_X1_chainOf n s 2 v 0).bind fun q => (f_X1_addTo_F0 n q.2 q.1 2 (q.2.1 7) 0).bind K) = (f_X1_add_F0 n s 2 v 0).bind K := by
  subst h
  simp only [f_X1_add_F0, f_X1_chainOf, Option.bind_some]
/-- a name: its formula, an old one or a new one, or a fault -/
theorem var2 {n : Nat} (hn : 100000 ≤ n) {X : TX} {D : HD} {p o : Nat} {sC sM : StT} (hB : RB X D o sC sM) (hp : p ≤ X.2.1) (hT : Tk1 X.2.1 X.2.2 (skX X p) (tkX X (skX X p)) sC sM) (hk : (tkX X (skX X p)).1 = 110) :
    (∃ f D' c1 m1, f_X3_readVariable n sC = some (nI f, uF c1 2 0) ∧ f_X12_variableOf n sM = some (nI f, m1) ∧ RB X D' o c1 m1 ∧ Tk1 X.2.1 X.2.2 (skX X p) (tkX X (skX X p)) c1 m1 ∧ f < D'.1.1 ∧ Gd D D' ∧ FRC sC c1 ∧ ∀ d, FRM d sM m1)
    ∨ ∃ c1 m1, f_X3_readVariable n sC = some (-1, c1) ∧ f_X12_variableOf n sM = some (-1, m1) ∧ RX D c1 m1 ∧ FRC sC c1 ∧ ∀ d, FRM d sM m1 := by
  have hbt : ∀ i, i < X.2.1 → X.2.2 i < 256 := fun i hi => (hB.2.1.1.2.2 i hi).2
  obtain ⟨hq, hlt, hn6, hsz⟩ := tk_name hbt hk
  have hbd := nx_bd (tn := X.2.1) (bt := X.2.2) (X.2.1 - skX X p) (skX X p) (by omega)
  have hkb := sk_bd (tn := X.2.1) (bt := X.2.2) (X.2.1 - p) p (by omega)
  have hs := tk_size (tm := X.1) (bt := X.2.2) hkb.2.1
  have hK1 : 1 ≤ (tkX X (skX X p)).2.2 := hs.2.1 hT.2.2.1 (show (tkX X (skX X p)).1 ≠ 0 by rw [hk]; decide)
  have hK6 : (tkX X (skX X p)).2.2 ≤ 6 := hs.2.2
  have hKn : skX X p + (tkX X (skX X p)).2.2 ≤ X.2.1 := hs.1
  have hlb : ∀ b, b ∈ bts X.2.2 (skX X p) (tkX X (skX X p)).2.2 → 0 < b ∧ b < 128 := by
    refine bts_bd (fun i hi => ?_)
    rw [hsz] at hi
    exact hbd.2.2 _ (by omega) (by omega)
  have hlc : ∀ i, i < (tkX X (skX X p)).2.2 → X.2.2 (skX X p + i) < 128 := fun i hi => (hlb _ (List.mem_of_getElem? (bts_get X.2.2 _ _ i hi))).2
  have hH := hB.1
  have h6 := hT.2.2.2.2.2.2.2.2.1
  have h7 := hT.2.2.2.2.2.2.2.2.2.1
  have hnm := hT.2.2.2.2.2.2.2.2.2.2 hk
  have hTM := hB.2.1.2.1
  generalize hqd : skX X p = q at *
  generalize hkd : tkX X q = k at *
  have hvn := hH.2.2.1.2.2.2.2.1
  have htn := hH.2.2.1.2.1
  have hV := hH.2.2.2.2.1
  have hXn := hTM.1
  rcases find_loop hn hH hTM h6 h7 hKn hK1 hK6 hlb D.2.1 0 n (by omega) (by omega) with ⟨f, hf, ec, em⟩ | ⟨ec, em⟩
  · have ec : f_X1_named_F0_2 n n sC (Int64.ofNat (pkN (bts X.2.2 q k.2.2))) 0 = some (nI f, sC) := ec
    left
    refine ⟨f, D, sC, sM, ?_, em, hB, hT, hf, Gd.rf _, FRC.rf _, fun d => FRM.rf d _⟩
    unfold f_X3_readVariable f_X8_name f_X1_named_F0 f_X8_take
    rw [Option.bind_some]
    simp only []
    rw [hnm, ec, Option.bind_some]
    simp only []
    rw [if_pos (show 0 ≤ nI f from nI_nn (by omega)), Option.bind_some]
  · have ec : f_X1_named_F0_2 n n sC (Int64.ofNat (pkN (bts X.2.2 q k.2.2))) 0 = some (-1, sC) := ec
    have em : f_X12_variableOf n sM = vEnd n sM := em
    have hm1 : ¬ (0 : Int32) ≤ -1 := by decide
    by_cases c24 : D.2.1 = 24
    · right
      refine ⟨uF (uF sC 10 4) 11 (nI q), uF (uF sM 10 4) 11 (nI q), ?_, ?_, HS.fault hH (c := 4) (by decide) (by decide) rfl, FRC.fl _ _ _, fun d => FRM.fl _ _ _ _⟩
      · unfold f_X3_readVariable f_X8_name f_X1_named_F0 f_X1_hasRoomForVariable_F0 f_X8_start f_X3_fail
        rw [Option.bind_some]
        simp only []
        rw [hnm, ec, Option.bind_some]
        simp only []
        rw [if_neg hm1, if_pos (show (24 : Int32) ≤ sC.1 7 by rw [hH.2.2.2.1, c24]; decide), Option.bind_some]
        simp only []
        rw [if_pos trivial, Option.bind_some]
        simp only []
        rw [if_pos hB.2.2.2.2.2.1, Option.bind_some, hT.2.2.2.2.2.1]
      · rw [em]
        unfold vEnd f_X12_fail
        rw [if_pos (by rw [hV.1, c24]; rfl), if_pos hB.2.2.2.2.2.2, Option.bind_some, h6]
    · have hnr : ¬ (24 : Int32) ≤ sC.1 7 := by
        rw [hH.2.2.2.1]
        exact fun e => absurd ((nI_leI (a := 24) (by omega) (by omega)).mp e) (by omega)
      by_cases c2k : D.1.1 = 2000
      · right
        refine ⟨uF (uF sC 10 5) 11 (nI q), uF (uF sM 10 5) 11 (nI q), ?_, ?_, HS.fault hH (c := 5) (by decide) (by decide) rfl, FRC.fl _ _ _, fun d => FRM.fl _ _ _ _⟩
        · unfold f_X3_readVariable f_X8_name f_X1_named_F0 f_X1_hasRoomForVariable_F0 f_X8_start f_X3_fail f_X1_addNamed_F0
          rw [Option.bind_some]
          simp only []
          rw [hnm, ec, Option.bind_some]
          simp only []
          rw [if_neg hm1, if_neg hnr, Option.bind_some]
          simp only []
          rw [if_neg (show ¬ (1 : Int32) = 0 by decide), Option.bind_some]
          simp only []
          rw [hH.2.2.2.1, if_neg (show ¬ nI D.2.1 < 0 from nI_nneg (by omega)), if_pos (show nI D.2.1 < (24 : Int32) from (nI_ltI (b := 24) (by omega) (by omega)).mpr (by omega)), addV_eq hH.2.2.2.1, addF0_full (by rw [hH.1.1, c2k]), Option.bind_some]
          simp only []
          rw [if_pos (show (-1 : Int32) < 0 by decide), Option.bind_some]
          simp only []
          rw [if_neg hm1, Option.bind_some]
          simp only []
          rw [if_pos hB.2.2.2.2.2.1, Option.bind_some, hT.2.2.2.2.2.1]
        · rw [em]
          unfold vEnd f_X12_fail
          rw [if_neg (by rw [hV.1]; exact fun e => c24 (nI_inj (b := 24) (by omega) (by omega) e)), if_pos (by rw [hH.2.1.1, c2k]; rfl), if_pos hB.2.2.2.2.2.2, Option.bind_some, h6]
      · left
        obtain ⟨c1, ac, ac1, ac2, ac3, ac4⟩ := addF0 (n := n) hH.1 (k := 2) (a := D.2.1) (b := 0) (show D.1.1 < 2000 by omega)
        have ac : f_X1_add_F0 n sC 2 (nI D.2.1) 0 = some (nI D.1.1, c1) := ac
        obtain ⟨m0, cm, cm1, cm2, cm3, cm4, cm5⟩ := copy_loop (n := n) hTM hV.1 h6 h7 hKn (show D.2.1 < 24 by omega) hK6 k.2.2 0 n sM (by omega) (by omega) rfl (fun _ _ => rfl) rfl (fun _ _ => rfl) (fun j hj => by omega)
        have cm : f_X12_variableOf_142 n n sM 0 = vFin n m0 := cm
        have hMF0 : MF (uA m0 4 (nI D.2.1) (nI k.2.2)) D.1 := by
          refine ⟨by show m0.1 0 = _; rw [cm1]; exact hH.2.1.1, fun f hf => ?_⟩
          have := hH.2.1.2 f hf
          simp only [uA_21]
          rw [if_neg (by decide), if_neg (by decide), if_neg (by decide), cm2 0 (by decide), cm2 1 (by decide), cm2 2 (by decide)]
          exact this
        obtain ⟨m1, am, am1, am2⟩ := addM (n := n) hMF0 (k := 2) (a := D.2.1) (b := 0) (show D.1.1 < 2000 by omega)
        have am : f_X12_add n (uA m0 4 (nI D.2.1) (nI k.2.2)) 2 (nI D.2.1) 0 = some (nI D.1.1, m1) := am
        refine ⟨D.1.1, (addT D.1 2 D.2.1 0, D.2.1 + 1, (fun v => if v = D.2.1 then D.1.1 else D.2.2.1 v), (fun v => if v = D.2.1 then bts X.2.2 q k.2.2 else D.2.2.2 v)), uF (uM c1 0 (nI D.2.1) (Int64.ofNat (pkN (bts X.2.2 q k.2.2)))) 7 (nI (D.2.1 + 1)), uF (uA m1 5 (nI D.2.1) (nI D.1.1)) 2 (nI (D.2.1 + 1)), ?_, ?_, ?_, ?_, ?_, ?_, ?_, ?_⟩
        · unfold f_X3_readVariable f_X8_name f_X1_named_F0 f_X1_hasRoomForVariable_F0 f_X8_start f_X3_fail f_X1_addNamed_F0 f_X8_take
          rw [Option.bind_some]
          simp only []
          rw [hnm, ec, Option.bind_some]
          simp only []
          rw [if_neg hm1, if_neg hnr, Option.bind_some]
          simp only []
          rw [if_neg (show ¬ (1 : Int32) = 0 by decide), Option.bind_some]
          simp only []
          rw [hH.2.2.2.1, if_neg (show ¬ nI D.2.1 < 0 from nI_nneg (by omega)), if_pos (show nI D.2.1 < (24 : Int32) from (nI_ltI (b := 24) (by omega) (by omega)).mpr (by omega)), addV_eq hH.2.2.2.1, ac, Option.bind_some]
          simp only []
          rw [if_neg (show ¬ nI D.1.1 < 0 from nI_nneg (by omega)), ac2 7 (by decide), hH.2.2.2.1, inB_nI (show D.2.1 < 24 by omega) (by omega), if_pos rfl, Option.bind_some]
          simp only []
          rw [if_pos (show 0 ≤ nI D.1.1 from nI_nn (by omega)), Option.bind_some, hnm, show (uM c1 0 (nI D.2.1) (Int64.ofNat (pkN (bts X.2.2 q k.2.2)))).1 7 = nI D.2.1 by rw [uM_1, ac2 7 (by decide)]; exact hH.2.2.2.1, nI_1]
        · rw [em]
          unfold vEnd
          rw [if_neg (by rw [hV.1]; exact fun e => c24 (nI_inj (b := 24) (by omega) (by omega) e)), if_neg (by rw [hH.2.1.1]; exact fun e => c2k (nI_inj (b := 2000) (by omega) (by omega) e)), cm]
          unfold vFin
          rw [cm1, hV.1, h7, inB_nI (show D.2.1 < 24 by omega) (by omega), if_pos rfl, show (uA m0 4 (nI D.2.1) (nI k.2.2)).1 2 = nI D.2.1 by rw [uA_1, cm1]; exact hV.1, am, Option.bind_some, inB_nI (show D.2.1 < 24 by omega) (by omega), if_pos rfl]
          simp only []
          rw [show (uA m1 5 (nI D.2.1) (nI D.1.1)).1 2 = nI D.2.1 by rw [uA_1, am2.1 2 (by decide), uA_1, cm1]; exact hV.1, nI_1]
          have e0 : (uF (uA m1 5 (nI D.2.1) (nI D.1.1)) 2 (nI (D.2.1 + 1))).1 0 = nI (D.1.1 + 1) := am1.1
          rw [e0, nI_m1]
        · refine ⟨⟨?_, ?_, hH.2.2.1.addV (by omega) (by omega), rfl, ?_, ?_, ?_, ?_⟩, ⟨?_, ?_, ?_, ?_⟩, ⟨hB.2.2.1.1, by show c1.1 11 = _; rw [ac2 11 (by decide)]; exact hB.2.2.1.2⟩, ?_, ?_, ?_, ?_⟩
          · exact ac1
          · refine ⟨am1.1, fun f hf => ?_⟩
            have := am1.2 f hf
            simp only [uF_2, uA_21]
            rw [if_neg (by decide), if_neg (by decide), if_neg (by decide)]
            exact this
          · refine ⟨rfl, fun v hv => ?_⟩
            have hv : v < D.2.1 + 1 := hv
            simp only [uF_2, uA_21, if_true, upd_j, nI_cl (show D.2.1 < 2 ^ 31 by omega)]
            by_cases c : v = D.2.1
            · simp only [c, if_true]
              exact ⟨trivial, by show D.1.1 < D.1.1 + 1; omega, by simp [addT], by simp [addT]⟩
            · simp only [c, if_false]
              have a := hV.2 v (by omega)
              have hne : D.2.2.1 v ≠ D.1.1 := by omega
              refine ⟨?_, by show _ < D.1.1 + 1; omega, by simp [addT, hne, a.2.2.1], by simp [addT, hne, a.2.2.2]⟩
              rw [am2.2.1 5 (by decide) (by decide) (by decide), uA_21, if_neg (by decide), cm2 5 (by decide)]
              exact a.1
          · intro v hv
            have hv : v < D.2.1 + 1 := hv
            simp only [uF_2, uM_222, if_true, upL_j, nI_cl (show D.2.1 < 2 ^ 31 by omega)]
            by_cases c : v = D.2.1
            · simp only [c, if_true]
            · simp only [c, if_false]; rw [ac4]; exact hH.2.2.2.2.2.1 v (by omega)
          · intro v hv
            have hv : v < D.2.1 + 1 := hv
            simp only [uF_2, uA_21, if_neg (show ¬ (3 : Nat) = 5 by decide), if_neg (show ¬ (4 : Nat) = 5 by decide)]
            rw [am2.2.1 4 (by decide) (by decide) (by decide), am2.2.1 3 (by decide) (by decide) (by decide)]
            simp only [uA_21, if_true, if_neg (show ¬ (3 : Nat) = 4 by decide), upd_j, nI_cl (show D.2.1 < 2 ^ 31 by omega)]
            by_cases c : v = D.2.1
            · simp only [c, if_true]
              rw [bts_len]
              refine ⟨rfl, fun i b hb => ?_⟩
              have hi : i < k.2.2 := by
                have := (List.getElem?_eq_some_iff.mp hb).1
                rw [bts_len] at this; exact this
              rw [bts_get X.2.2 q k.2.2 i hi] at hb
              rw [cm5 i hi, ← Option.some.inj hb]
              exact (sb_low _ (by have := hlc i hi; omega) _ (hlc i hi)).mpr rfl
            · simp only [c, if_false]
              have a := hH.2.2.2.2.2.2.1 v (by omega)
              rw [cm2 4 (by decide)]
              refine ⟨a.1, fun i b hb => ?_⟩
              have w := hH.2.2.2.2.2.2.2 v (by omega)
              have hi := (List.getElem?_eq_some_iff.mp hb).1
              rw [cm4 (6 * v + i) (by omega)]
              exact a.2 i b hb
          · intro v hv
            have hv : v < D.2.1 + 1 := hv
            by_cases c : v = D.2.1
            · simp only [c, if_true]; rw [bts_len]; exact ⟨hK1, hK6, hlb⟩
            · simp only [c, if_false]; exact hH.2.2.2.2.2.2.2 v (by omega)
          · obtain ⟨x1, x2, x3⟩ := hB.2.1.1
            refine ⟨x1, by show c1.1 0 = _; rw [ac2 0 (by decide)]; exact x2, fun i hi => ?_⟩
            show c1.2.1 1 i &&& 255 = _ ∧ _
            rw [ac3 1 (by decide) (by decide) (by decide) (by decide) (by decide)]; exact x3 i hi
          · obtain ⟨x1, x2, x3⟩ := hTM
            refine ⟨x1, ?_, fun i hi => ?_⟩
            · show m1.1 3 = _
              rw [am2.1 3 (by decide), uA_1, cm1]; exact x2
            · simp only [uF_2, uA_21]
              rw [if_neg (by decide), am2.2.1 6 (by decide) (by decide) (by decide), uA_21, if_neg (by decide), cm2 6 (by decide)]; exact x3 i hi
          · show c1.1 1 = _; rw [ac2 1 (by decide)]; exact hB.2.1.2.2.1
          · show m1.1 9 = _; rw [am2.1 9 (by decide), uA_1, cm1]; exact hB.2.1.2.2.2
          · show c1.1 9 = _; rw [ac2 9 (by decide)]; exact hB.2.2.2.1
          · show m1.1 13 = _; rw [am2.1 13 (by decide), uA_1, cm1]; exact hB.2.2.2.2.1
          · show c1.1 10 = _; rw [ac2 10 (by decide)]; exact hB.2.2.2.2.2.1
          · show m1.1 10 = _; rw [am2.1 10 (by decide), uA_1, cm1]; exact hB.2.2.2.2.2.2
        · obtain ⟨t1, t2, t3, t4, t5, t6, t7, t8, t9, t10, t11⟩ := hT
          have em : ∀ j, j ≠ 0 → m1.1 j = sM.1 j := fun j hj => by rw [am2.1 j hj, uA_1, cm1]
          refine ⟨?_, ?_, t3, t4, ?_, ?_, ?_, ?_, ?_, ?_, fun _ => ?_⟩
          · show c1.1 2 = _; rw [ac2 2 (by decide)]; exact t1
          · show m1.1 8 = _; rw [em 8 (by decide)]; exact t2
          · show c1.1 3 = _; rw [ac2 3 (by decide)]; exact t5
          · show c1.1 4 = _; rw [ac2 4 (by decide)]; exact t6
          · show c1.1 5 = _; rw [ac2 5 (by decide)]; exact t7
          · show m1.1 5 = _; rw [em 5 (by decide)]; exact t8
          · show m1.1 6 = _; rw [em 6 (by decide)]; exact t9
          · show m1.1 7 = _; rw [em 7 (by decide)]; exact t10
          · show c1.2.2.1 0 = _; rw [ac4]; exact hnm
        · show D.1.1 < D.1.1 + 1; omega
        · refine ⟨by show D.1.1 ≤ D.1.1 + 1; omega, fun f hf => ?_, by show D.2.1 ≤ D.2.1 + 1; omega⟩
          have hne : f ≠ D.1.1 := by omega
          simp [addT, hne]
        · refine ⟨fun j hj => ?_, fun j hj => ?_, fun j hj => ?_, fun j hj => ?_⟩
          · simp only [uF_1, uM_1]; rw [if_neg (by omega)]; exact ac2 j (by omega)
          · exact ac3 j (by omega) (by omega) (by omega) (by omega) (by omega)
          · show c1.2.2.1 j = _; rw [ac4]
          · simp only [uF_2, uM_222]; rw [if_neg hj, ac4]
        · intro d
          refine ⟨fun j hj => ?_, fun j hj => ?_, fun j i h1 h2 h3 => ?_, ?_⟩
          · simp only [uF_1, uA_1]; rw [if_neg (by omega), am2.1 j (by omega), uA_1, cm1]
          · simp only [uF_2, uA_21]; rw [if_neg (by omega), am2.2.1 j (by omega) (by omega) (by omega), uA_21, if_neg (by omega), cm2 j (by omega)]
          · simp only [uF_2, uA_21]; rw [if_neg (by omega), am2.2.1 j (by omega) (by omega) (by omega), uA_21, if_neg (by omega), cm2 j (by omega)]
          · show m1.2.2 = _; rw [am2.2.2]; exact cm3
