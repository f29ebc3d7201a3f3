theorem pf_stop {n fu : Nat} {s : StT} {D : List Nat} {x2 x3 : Int32} (hP : PgC s D) (hD : 8000 < D.length) : f_X10_putFormula_12 n (fu + 1) s x2 x3 = some s := by
  rw [f_X10_putFormula_12]
  by_cases c1 : (16000 : Int32) ≤ x3
  · rw [if_pos c1]
  · rw [if_neg c1]
    by_cases c2 : x2 < 0
    · rw [if_pos c2]
    · rw [if_neg c2]
      by_cases c3 : (2000 : Int32) ≤ x2
      · rw [if_pos c3]
      · rw [if_neg c3, overC hP, if_neg (by omega), Option.bind_some, if_neg (show ¬ (1 : Int32) = 0 by decide)]
theorem pf_un {n fu : Nat} {s : StT} {t : FT} {vn f c top turn : Nat} {D : List Nat} (hP : PgC s D) (hD : D.length ≤ 8000) (ht : top < 2000) (htu : turn < 16000) (hpt : s.2.1 14 top = nI (4 * f + c)) (hc : c < 3) (hf : f < t.1) (hC : CFt s t) (hw : WFt t vn) : f_X10_putFormula_12 n (fu + 1) s (nI top) (nI turn) = if (3 : Int32) ≤ nI (t.2.1 f) then (if nI c = 0 then ((f_X10_put n (uA s 14 (nI top) (nI (4 * f + c + 1))) (40 : Int32)).bind fun q106 => ((f_X1_firstOf_F0 n q106 (nI f)).bind fun q122 => ((f_X10_begin_21 n q122.2 (nI (top + 1)) q122.1).bind fun q125 => (f_X10_putFormula_12 n fu q125.2 q125.1 (nI (turn + 1)))))) else (if nI c = (1 : Int32) then ((f_X10_putSign n (uA s 14 (nI top) (nI (4 * f + c + 1))) (nI (t.2.1 f))).bind fun q141 => ((f_X1_secondOf_F0 n q141 (nI f)).bind fun q157 => ((f_X10_begin_21 n q157.2 (nI (top + 1)) q157.1).bind fun q160 => (f_X10_putFormula_12 n fu q160.2 q160.1 (nI (turn + 1)))))) else ((f_X10_put n (uA s 14 (nI top) (nI (4 * f + c + 1))) (41 : Int32)).bind fun q170 => (f_X10_putFormula_12 n fu q170 (nI top - 1) (nI (turn + 1)))))) else ((f_X10_putAtom n (uA s 14 (nI top) (nI (4 * f + c + 1))) (nI (t.2.1 f)) (nI f)).bind fun q89 => (f_X10_putFormula_12 n fu q89 (nI top - 1) (nI (turn + 1)))) := by
  have hb := hw.2.1
  have em1 : nI top + -1 = nI top - 1 := by rw [Int32.sub_eq_add_neg]
  rw [f_X10_putFormula_12, if_neg (show ¬ (16000 : Int32) ≤ nI turn from fun e => absurd ((nI_leI (a := 16000) (by omega) (by omega)).mp e) (by omega)), if_neg (nI_nneg (by omega)), if_neg (show ¬ (2000 : Int32) ≤ nI top from fun e => absurd ((nI_leI (a := 2000) (by omega) (by omega)).mp e) (by omega)), overC hP, if_pos hD, Option.bind_some]
  simp only [if_true, inB_nI ht (show 2000 < 2 ^ 31 by omega), nI_cl (show top < 2 ^ 31 by omega), hpt, pth_shr (show f < 100000 by omega) (show c < 4 by omega), pth_and (show c < 4 by omega)]
  rw [kindOfF0 hC hf, Option.bind_some]
  simp only [hpt, nI_1, em1]
theorem len_app {D E : List Nat} : (D ++ E).length = D.length + E.length := List.length_append
theorem pfC {n : Nat} (hn : 100000 ≤ n) {s0 : StT} {t : FT} {vn : Nat} {nm : Nat → List Nat} (hC : CFt s0 t) (hw : WFt t vn) (h7 : s0.1 7 = nI vn) (hN : NmC s0 vn nm) (hNW : NmW vn nm) : ∀ f, f < t.1 → ∀ (top turn fu : Nat) (s : StT) (D : List Nat), top + f < 2000 → PgC s D → D.length ≤ 8000 → turn ≤ D.length → 16010 ≤ fu + turn → AgF s0 s → s.2.1 14 top = nI (4 * f) → GoesC n s0 (f_X10_putFormula_12 n fu s (nI top) (nI turn)) (D ++ fb t nm f) top (s.2.1 14) := by
  have hb := hw.2.1
  intro f
  induction f using Nat.strongRecOn with
  | ind f ih =>
    intro hf top turn fu s D htop hP hD htu hfu hA hpt
    obtain ⟨fu, rfl⟩ : ∃ q, fu = q + 1 := ⟨fu - 1, by omega⟩
    have bd := hw.bd hf
    have hCs := hC.agF hA
    have hsame : ∀ (q : StT) (i : Nat), i < top → (uA q 14 (nI top) (nI (4 * f + 0 + 1))).2.1 14 i = q.2.1 14 i := by
      intro q i hi
      simp only [uA_21, if_true, upd_j, nI_cl (show top < 2 ^ 31 by omega)]
      rw [if_neg (by omega)]
    rw [pf_un (c := 0) hP hD (by omega) (by omega) hpt (by omega) hf hCs hw]
    have A1 := hA.tr (AgF.path s (nI top) (nI (4 * f + 0 + 1)))
    by_cases k3 : 3 ≤ t.2.1 f
    · rw [if_pos (show (3 : Int32) ≤ nI (t.2.1 f) from (nI_leI (a := 3) (by omega) (by omega)).mpr k3), if_pos (by decide)]
      have hl := hw.lo hf k3
      have oka := fb_ok hw hNW (t.2.2.1 f) (by omega)
      have okb := fb_ok hw hNW (t.2.2.2 f) (by omega)
      have oks := sgn_ok (t.2.1 f)
      have hD' : D ++ fb t nm f = (((D ++ [40]) ++ fb t nm (t.2.2.1 f)) ++ sgn (t.2.1 f)) ++ fb t nm (t.2.2.2 f) ++ [41] := by
        rw [fb_3 hw hf k3]; simp only [List.append_assoc]
      rw [hD']
      -- open
      obtain ⟨s1, e1, e2, e3⟩ := putC (n := n) (b := 40) (PgC.path hP (nI top) (nI (4 * f + 0 + 1))) (by omega)
      have A2 := A1.tr e3.toF
      rw [show (40 : Int32) = nI 40 from rfl, e1, Option.bind_some, firstOfF0 (hC.agF A2) hf, Option.bind_some]
      simp only []
      rw [beginC (by omega) (by omega), Option.bind_some]
      simp only []
      have A3 := A2.tr (AgF.path s1 (nI (top + 1)) (nI (4 * t.2.2.1 f)))
      have P3 : PgC (uA s1 14 (nI (top + 1)) (nI (4 * t.2.2.1 f))) (D ++ [40]) := PgC.path e2 _ _
      have pth1 : ∀ i, i ≤ top → (uA s1 14 (nI (top + 1)) (nI (4 * t.2.2.1 f))).2.1 14 i = if i = top then nI (4 * f + 1) else s.2.1 14 i := by
        intro i hi
        simp only [uA_21, if_true, upd_j, nI_cl (show top + 1 < 2 ^ 31 by omega)]
        rw [if_neg (by omega), e3.2.1 14 (by decide)]
        simp only [uA_21, if_true, upd_j, nI_cl (show top < 2 ^ 31 by omega)]
      have over : ∀ (s' : StT) (E R : List Nat) (x2 x3 : Int32) (fu : Nat), PgC s' E → 8000 < E.length → AgF s0 s' → GoesC n s0 (f_X10_putFormula_12 n (fu + 1) s' x2 x3) (E ++ R) top (s.2.1 14) := by
        intro s' E R x2 x3 fu hE hl hAg
        rw [pf_stop hE hl]
        exact Or.inr ⟨by rw [len_app]; omega, s', rfl, by rw [hE.1, show min E.length 8001 = 8001 by omega], hAg⟩
      by_cases d1 : (D ++ [40]).length ≤ 8000
      · have g := ih _ hl.1 (by omega) (top + 1) (turn + 1) fu _ (D ++ [40]) (by omega) P3 d1 (by rw [len_app]; simp; omega) (by omega) A3 (by
          simp only [uA_21, if_true, upd_j, nI_cl (show top + 1 < 2 ^ 31 by omega)])
        rcases g with ⟨g1, s4, fu4, tu4, g2, g3, g4, g5, g6, g7⟩ | ⟨g1, s4, g2, g3, g4⟩
        · rw [g2, nI_m1]
          have hp4 : s4.2.1 14 top = nI (4 * f + 1) := by rw [g7 top (by omega), pth1 top (Nat.le_refl _), if_pos rfl]
          have low4 : ∀ i, i < top → s4.2.1 14 i = s.2.1 14 i := fun i hi => by rw [g7 i (by omega), pth1 i (by omega), if_neg (by omega)]
          obtain ⟨fu4, rfl⟩ : ∃ q, fu4 = q + 1 := ⟨fu4 - 1, by omega⟩
          rw [pf_un (c := 1) g3 g1 (by omega) (by omega) hp4 (by omega) hf (hC.agF g6) hw, if_pos (show (3 : Int32) ≤ nI (t.2.1 f) from (nI_leI (a := 3) (by omega) (by omega)).mpr k3), if_neg (by decide), if_pos (by decide)]
          obtain ⟨s5, p1, p2, p3⟩ := signC (n := n) hn (show t.2.1 f < 100 by omega) (PgC.path g3 (nI top) (nI (4 * f + 1 + 1)))
          have A5 := (g6.tr (AgF.path s4 (nI top) (nI (4 * f + 1 + 1)))).tr p3.toF
          rw [p1, Option.bind_some, secondOfF0 (hC.agF A5) hf, Option.bind_some]
          simp only []
          rw [beginC (by omega) (by omega), Option.bind_some]
          simp only []
          have A6 := A5.tr (AgF.path s5 (nI (top + 1)) (nI (4 * t.2.2.2 f)))
          have P6 : PgC (uA s5 14 (nI (top + 1)) (nI (4 * t.2.2.2 f))) (((D ++ [40]) ++ fb t nm (t.2.2.1 f)) ++ sgn (t.2.1 f)) := PgC.path p2 _ _
          have pth5 : ∀ i, i ≤ top → (uA s5 14 (nI (top + 1)) (nI (4 * t.2.2.2 f))).2.1 14 i = if i = top then nI (4 * f + 2) else s4.2.1 14 i := by
            intro i hi
            simp only [uA_21, if_true, upd_j, nI_cl (show top + 1 < 2 ^ 31 by omega)]
            rw [if_neg (by omega), p3.2.1 14 (by decide)]
            simp only [uA_21, if_true, upd_j, nI_cl (show top < 2 ^ 31 by omega)]
          by_cases d2 : (((D ++ [40]) ++ fb t nm (t.2.2.1 f)) ++ sgn (t.2.1 f)).length ≤ 8000
          · have gg := ih _ hl.2 (by omega) (top + 1) (tu4 + 1) fu4 _ (((D ++ [40]) ++ fb t nm (t.2.2.1 f)) ++ sgn (t.2.1 f)) (by omega) P6 d2 (by rw [len_app]; omega) (by omega) A6 (by
              simp only [uA_21, if_true, upd_j, nI_cl (show top + 1 < 2 ^ 31 by omega)])
            rcases gg with ⟨q1, s7, fu7, tu7, q2, q3, q4, q5, q6, q7⟩ | ⟨q1, s7, q2, q3, q4⟩
            · rw [q2, nI_m1]
              have hp7 : s7.2.1 14 top = nI (4 * f + 2) := by rw [q7 top (by omega), pth5 top (Nat.le_refl _), if_pos rfl]
              obtain ⟨fu7, rfl⟩ : ∃ q, fu7 = q + 1 := ⟨fu7 - 1, by omega⟩
              rw [pf_un (c := 2) q3 q1 (by omega) (by omega) hp7 (by omega) hf (hC.agF q6) hw, if_pos (show (3 : Int32) ≤ nI (t.2.1 f) from (nI_leI (a := 3) (by omega) (by omega)).mpr k3), if_neg (by decide), if_neg (by decide)]
              obtain ⟨s8, w1, w2, w3⟩ := putC (n := n) (b := 41) (PgC.path q3 (nI top) (nI (4 * f + 2 + 1))) (by omega)
              have A8 := (q6.tr (AgF.path s7 (nI top) (nI (4 * f + 2 + 1)))).tr w3.toF
              rw [show (41 : Int32) = nI 41 from rfl, w1, Option.bind_some]
              by_cases d3 : ((((D ++ [40]) ++ fb t nm (t.2.2.1 f)) ++ sgn (t.2.1 f)) ++ fb t nm (t.2.2.2 f) ++ [41]).length ≤ 8000
              · refine Or.inl ⟨d3, s8, fu7, tu7 + 1, rfl, w2, ?_, by omega, A8, fun i hi => ?_⟩
                · rw [len_app (E := [41])]; simp only [List.length_singleton]; omega
                · rw [w3.2.1 14 (by decide)]
                  simp only [uA_21, if_true, upd_j, nI_cl (show top < 2 ^ 31 by omega)]
                  rw [if_neg (by omega), q7 i (by omega), pth5 i (by omega), if_neg (by omega), low4 i hi]
              · obtain ⟨fu7, rfl⟩ : ∃ q, fu7 = q + 1 := ⟨fu7 - 1, by omega⟩
                have := over s8 _ [] (nI top - 1) (nI (tu7 + 1)) fu7 w2 (by omega) A8
                rw [List.append_nil] at this
                exact this
            · refine Or.inr ⟨?_, s7, q2, q3, q4⟩
              rw [len_app (E := [41])]
              omega
          · obtain ⟨fu4, rfl⟩ : ∃ q, fu4 = q + 1 := ⟨fu4 - 1, by omega⟩
            have := over _ _ (fb t nm (t.2.2.2 f) ++ [41]) (nI (top + 1)) (nI (tu4 + 1)) fu4 P6 (by omega) A6
            simp only [List.append_assoc] at this ⊢
            exact this
        · refine Or.inr ⟨?_, s4, g2, g3, g4⟩
          rw [len_app] at g1
          simp only [len_app] at g1 ⊢
          omega
      · obtain ⟨fu, rfl⟩ : ∃ q, fu = q + 1 := ⟨fu - 1, by omega⟩
        have := over _ (D ++ [40]) (fb t nm (t.2.2.1 f) ++ (sgn (t.2.1 f) ++ (fb t nm (t.2.2.2 f) ++ [41]))) (nI (top + 1)) (nI (turn + 1)) fu P3 (by omega) A3
        simp only [List.append_assoc] at this ⊢
        exact this
    · rw [if_neg (show ¬ (3 : Int32) ≤ nI (t.2.1 f) from fun e => k3 ((nI_leI (a := 3) (by omega) (by omega)).mp e))]
      obtain ⟨s1, e1, e2, e3⟩ := atomC hn (hC.agF A1) hw (by rw [A1.1 7 (by decide)]; exact h7) (hN.agF A1) hNW hf (by omega) (PgC.path hP (nI top) (nI (4 * f + 0 + 1)))
      rw [e1, Option.bind_some]
      have A2 := A1.tr e3.toF
      have ok := fb_ok hw hNW f hf
      by_cases d1 : (D ++ fb t nm f).length ≤ 8000
      · refine Or.inl ⟨d1, s1, fu, turn + 1, rfl, e2, by rw [len_app]; omega, by omega, A2, fun i hi => ?_⟩
        rw [e3.2.1 14 (by decide), hsame s i hi]
      · obtain ⟨fu, rfl⟩ : ∃ q, fu = q + 1 := ⟨fu - 1, by omega⟩
        rw [pf_stop e2 (by omega)]
        exact Or.inr ⟨by omega, s1, rfl, by rw [e2.1, show min (D ++ fb t nm f).length 8001 = 8001 by omega], A2⟩
/-- a whole formula -/
theorem putFormulaC {n : Nat} (hn : 100000 ≤ n) {s : StT} {t : FT} {vn : Nat} {nm : Nat → List Nat} {D : List Nat} (hC : CFt s t) (hw : WFt t vn) (h7 : s.1 7 = nI vn) (hN : NmC s vn nm) (hNW : NmW vn nm) {f : Nat} (hf : f < t.1) (hP : PgC s D) (hD : D.length ≤ 8000) : ∃ s', f_X10_putFormula n s (nI f) = some s' ∧ AgF s s' ∧ (((D ++ fb t nm f).length ≤ 8000 ∧ PgC s' (D ++ fb t nm f)) ∨ (8000 < (D ++ fb t nm f).length ∧ s'.1 14 = nI 8001)) := by
  have hb := hw.2.1
  unfold f_X10_putFormula
  rw [← nI_0, beginC (by omega) (by omega), Option.bind_some]
  have g := pfC hn hC hw h7 hN hNW f hf 0 0 n (uA s 14 (nI 0) (nI (4 * f))) D (by omega) (PgC.path hP _ _) hD (by omega) (by omega) (AgF.path s _ _) (by
    simp only [uA_21, if_true, upd_j, nI_cl (show 0 < 2 ^ 31 by omega)])
  rcases g with ⟨g1, s4, fu4, tu4, g2, g3, g4, g5, g6, g7⟩ | ⟨g1, s4, g2, g3, g4⟩
  · obtain ⟨fu4, rfl⟩ : ∃ q, fu4 = q + 1 := ⟨fu4 - 1, by omega⟩
    simp only []
    rw [g2, nI_neg1, f_X10_putFormula_12, if_neg (show ¬ (16000 : Int32) ≤ nI tu4 from fun e => absurd ((nI_leI (a := 16000) (by omega) (by omega)).mp e) (by omega)), if_pos m1_neg]
    exact ⟨s4, rfl, g6, Or.inl ⟨g1, g3⟩⟩
  · exact ⟨s4, g2, g4, Or.inr ⟨g1, g3⟩⟩
