/-! ===== the pile of the reference, with more fuel ===== -/
def GoesK (K : Nat) (n : Nat) (s0 : StT) (r : Option StT) (D' : List Nat) (h : Nat) (pl : Nat → Int32 × Int32 × Int32 × Int32) : Prop := (D'.length ≤ 8000 ∧ ∃ (s' : StT) (fu' : Nat), r = f_X12_writeAll_0 n fu' s' ∧ PgM s' D' ∧ s'.1 31 = nI h ∧ K ≤ fu' + D'.length ∧ AgW s0 s' ∧ ∀ i, i < h → ent s' i = pl i) ∨ (8000 < D'.length ∧ ∃ s' m, r = some s' ∧ s'.1 15 = nI m ∧ 8000 < m ∧ m ≤ 8100 ∧ AgW s0 s')
theorem GoesK.seq {K n : Nat} {s0 : StT} {r : Option StT} {D E : List Nat} {h h2 : Nat} {pl pl2 : Nat → Int32 × Int32 × Int32 × Int32} (g : GoesK K n s0 r D h pl) (k : ∀ (s' : StT) (fu' : Nat), PgM s' D → D.length ≤ 8000 → s'.1 31 = nI h → K ≤ fu' + D.length → AgW s0 s' → (∀ i, i < h → ent s' i = pl i) → GoesK K n s0 (f_X12_writeAll_0 n fu' s') (D ++ E) h2 pl2) : GoesK K n s0 r (D ++ E) h2 pl2 := by
  rcases g with ⟨g1, s', fu', g2, g3, g4, g5, g6, g7⟩ | ⟨g1, s', m, g2, g3, g4, g5, g6⟩
  · rw [g2]; exact k s' fu' g3 g1 g4 g5 g6 g7
  · exact Or.inr ⟨by rw [len_app]; omega, s', m, g2, g3, g4, g5, g6⟩
theorem GoesK.mk {K n : Nat} {s0 s' : StT} {D : List Nat} {h fu : Nat} {pl : Nat → Int32 × Int32 × Int32 × Int32} (hP : PgM s' D) (hh : s'.1 31 = nI h) (hb : h < 30000) (hfu : K ≤ fu + D.length) (h1 : 1 ≤ fu) (hA : AgW s0 s') (he : ∀ i, i < h → ent s' i = pl i) : GoesK K n s0 (f_X12_writeAll_0 n fu s') D h pl := by
  by_cases c : D.length ≤ 8000
  · exact Or.inl ⟨c, s', fu, rfl, hP, hh, hfu, hA, he⟩
  · obtain ⟨fu, rfl⟩ : ∃ q, fu = q + 1 := ⟨fu - 1, by omega⟩
    refine Or.inr ⟨by omega, s', min D.length 8100, ?_, hP.1, by omega, by omega, hA⟩
    rw [f_X12_writeAll_0, hP.1, if_pos (show (8000 : Int32) < nI (min D.length 8100) from (nI_ltI (a := 8000) (by omega) (by omega)).mpr (by omega)), if_t_t]
theorem byteKM {K n : Nat} (hK : 8110 ≤ K) {s0 s : StT} {D : List Nat} {h fu b : Nat} (hP : PgM s D) (hD : D.length ≤ 8000) (hh : s.1 31 = nI (h + 1)) (hb : h < 30000) (hfu : K ≤ fu + D.length) (hA : AgW s0 s) (he : ∃ y z, ent s h = (0, nI b, y, z)) (hbb : b < 128) : GoesK K n s0 (f_X12_writeAll_0 n fu s) (D ++ [b]) h (ent s) := by
  obtain ⟨fu, rfl⟩ : ∃ q, fu = q + 1 := ⟨fu - 1, by omega⟩
  obtain ⟨y, z, he⟩ := he
  have e33 : s.2.1 33 h = 0 := congrArg (·.1) he
  have e34 : s.2.1 34 h = nI b := congrArg (·.2.1) he
  obtain ⟨s1, p1, p2, p3⟩ := putM (n := n) (PgM.pop hP (nI h)) hbb
  rw [f_X12_writeAll_0, hh, if_neg (show ¬ nI (h + 1) ≤ 0 from nI_nle (by omega) (by omega)), hP.1, if_neg (show ¬ (8000 : Int32) < nI (min D.length 8100) from fun e => absurd ((nI_ltI (a := 8000) (by omega) (by omega)).mp e) (by omega)), nI_m1]
  simp only [uF_1, if_true, uF_2, inB_nI hb (show 30000 < 2 ^ 31 by omega), nI_cl (show h < 2 ^ 31 by omega), e33, e34]
  rw [p1, Option.bind_some]
  refine GoesK.mk p2 ?_ hb (by rw [len_app]; simp; omega) (by omega) ((hA.tr (AgW.pop s _)).tr p3.toW) (fun i hi => by rw [p3.entq]; rfl)
  rw [p3.1 31 (by decide)]
  rfl
theorem wfK {K n : Nat} (hK : 8110 ≤ K) (hn : 100000 ≤ n) {s0 : StT} {t : FT} {vn : Nat} {nm : Nat → List Nat} (hM : MF s0 t) (hw : WFt t vn) (hN : NmM s0 vn nm) (hNW : NmW vn nm) : ∀ f, f < t.1 → ∀ (h fu : Nat) (s : StT) (D : List Nat), h + 4 * f + 10 < 30000 → PgM s D → D.length ≤ 8000 → s.1 31 = nI (h + 1) → K ≤ fu + D.length → AgW s0 s → (∃ y z, ent s h = (1, nI f, y, z)) → GoesK K n s0 (f_X12_writeAll_0 n fu s) (D ++ fb t nm f) h (ent s) := by
  have hb := hw.2.1
  intro f
  induction f using Nat.strongRecOn with
  | ind f ih =>
    intro hf h fu s D hcap hP hD hh hfu hA he
    obtain ⟨fu, rfl⟩ : ∃ q, fu = q + 1 := ⟨fu - 1, by omega⟩
    have bd := hw.bd hf
    have A1 := hA.tr (AgW.pop s (nI h))
    have P1 := PgM.pop hP (nI h)
    rw [popM hP hD hh (by omega) he]
    by_cases k3 : 3 ≤ t.2.1 f
    · have hl := hw.lo hf k3
      have hD' : D ++ fb t nm f = (((D ++ [40]) ++ fb t nm (t.2.2.1 f)) ++ sgn (t.2.1 f)) ++ fb t nm (t.2.2.2 f) ++ [41] := by
        rw [fb_3 hw hf k3]; simp only [List.append_assoc]
      rw [hD']
      have hM1 := (hM.agW A1).2 f hf
      obtain ⟨s2, p1, p2, p3⟩ := putM (n := n) (b := 40) P1 (by omega)
      have A2 := A1.tr p3.toW
      have h2 : s2.1 31 = nI h := by rw [p3.1 31 (by decide)]; rfl
      have E2 : ∀ i, ent s2 i = ent s i := fun i => by rw [p3.entq]; rfl
      unfold f_X12_putFormula
      rw [inB_nI (show f < 4200 by omega) (by omega), if_pos rfl, nI_cl (by omega), hM1.1, if_pos (show (2 : Int32) ≤ nI (t.2.1 f) from (nI_leI (a := 2) (by omega) (by omega)).mpr (by omega)), if_neg (show ¬ nI (t.2.1 f) = (2 : Int32) from fun e => absurd (nI_inj (b := 2) (by omega) (by omega) e) (by omega)), show (40 : Int32) = nI 40 from rfl, p1, Option.bind_some, pushM h2 (by omega), Option.bind_some, if_pos rfl]
      have A3 := A2.tr (psh_ag s2 h 0 41 0 0)
      have P3 := psh_pg p2 h 0 41 0 0
      rw [((hM.agW A3).2 f hf).2.2, pushM (h := h + 1) psh_31 (by omega), Option.bind_some]
      have A4 := A3.tr (psh_ag (psh s2 h 0 41 0 0) (h + 1) 1 (nI (t.2.2.2 f)) 0 0)
      have P4 := psh_pg P3 (h + 1) 1 (nI (t.2.2.2 f)) 0 0
      have E4 : ∀ i, ent (psh (psh s2 h 0 41 0 0) (h + 1) 1 (nI (t.2.2.2 f)) 0 0) i = if i = h + 1 then (1, nI (t.2.2.2 f), 0, 0) else if i = h then (0, 41, 0, 0) else ent s i := fun i => by
        rw [psh_ent (by omega), psh_ent (by omega), E2]
      generalize hs4 : psh (psh s2 h 0 41 0 0) (h + 1) 1 (nI (t.2.2.2 f)) 0 0 = s4 at A4 P4 E4 ⊢
      have h4 : s4.1 31 = nI (h + 1 + 1) := by rw [← hs4]; rfl
      -- what follows when the signs and a are on the pile
      have rest : ∀ (s5 : StT) (D5 : List Nat) (fu5 : Nat), PgM s5 D5 → D5.length ≤ 8000 → s5.1 31 = nI (h + 2) → K ≤ fu5 + D5.length → AgW s0 s5 → (∀ i, i < h + 2 → ent s5 i = ent s4 i) → GoesK K n s0 (f_X12_writeAll_0 n fu5 s5) ((D5 ++ fb t nm (t.2.2.2 f)) ++ [41]) h (ent s) := by
        intro s5 D5 fu5 q1 q2 q3 q4 q5 q6
        have g := ih _ hl.2 (by omega) (h + 1) fu5 s5 D5 (by omega) q1 q2 q3 q4 q5 ⟨0, 0, by rw [q6 _ (by omega), E4, if_pos rfl]⟩
        refine g.seq (fun s6 fu6 r1 r2 r3 r4 r5 r6 => ?_)
        have b := byteKM hK (n := n) (h := h) (b := 41) r1 r2 r3 (by omega) r4 r5 ⟨0, 0, by rw [r6 _ (by omega), q6 _ (by omega), E4, if_neg (by omega), if_pos rfl]; rfl⟩ (by omega)
        have hfin : ∀ i, i < h → ent s6 i = ent s i := fun i hi => by rw [r6 _ (by omega), q6 _ (by omega), E4, if_neg (by omega), if_neg (by omega)]
        rcases b with ⟨b1, s7, fu7, b2, b3, b4, b5, b6, b7⟩ | b
        · exact Or.inl ⟨b1, s7, fu7, b2, b3, b4, b5, b6, fun i hi => by rw [b7 i hi, hfin i hi]⟩
        · exact Or.inr b
      by_cases k5 : t.2.1 f = 5
      · rw [k5, if_pos (by decide), pushM (h := h + 2) h4 (by omega), Option.bind_some]
        have A5 := A4.tr (psh_ag s4 (h + 2) 0 62 0 0)
        have P5 := psh_pg P4 (h + 2) 0 62 0 0
        unfold f_X12_putFormula_178 f_X12_putFormula_202
        rw [if_pos (by decide), pushM (h := h + 3) psh_31 (by omega), Option.bind_some, inB_nI (show f < 4200 by omega) (by omega), if_pos rfl, nI_cl (by omega)]
        have A6 := A5.tr (psh_ag (psh s4 (h + 2) 0 62 0 0) (h + 3) 0 45 0 0)
        have P6 := psh_pg P5 (h + 3) 0 45 0 0
        rw [((hM.agW A6).2 f hf).2.1, pushM (h := h + 4) psh_31 (by omega), Option.bind_some, Option.bind_some]
        have A7 := A6.tr (psh_ag (psh (psh s4 (h + 2) 0 62 0 0) (h + 3) 0 45 0 0) (h + 4) 1 (nI (t.2.2.1 f)) 0 0)
        have P7 := psh_pg P6 (h + 4) 1 (nI (t.2.2.1 f)) 0 0
        have E7 : ∀ i, ent (psh (psh (psh s4 (h + 2) 0 62 0 0) (h + 3) 0 45 0 0) (h + 4) 1 (nI (t.2.2.1 f)) 0 0) i = if i = h + 4 then (1, nI (t.2.2.1 f), 0, 0) else if i = h + 3 then (0, 45, 0, 0) else if i = h + 2 then (0, 62, 0, 0) else ent s4 i := fun i => by
          rw [psh_ent (by omega), psh_ent (by omega), psh_ent (by omega)]
        have h7 : (psh (psh (psh s4 (h + 2) 0 62 0 0) (h + 3) 0 45 0 0) (h + 4) 1 (nI (t.2.2.1 f)) 0 0).1 31 = nI (h + 4 + 1) := rfl
        generalize psh (psh (psh s4 (h + 2) 0 62 0 0) (h + 3) 0 45 0 0) (h + 4) 1 (nI (t.2.2.1 f)) 0 0 = s7 at A7 P7 E7 h7 ⊢
        have shape : (((D ++ [40]) ++ fb t nm (t.2.2.1 f)) ++ sgn 5) ++ fb t nm (t.2.2.2 f) ++ [41] = ((D ++ [40]) ++ fb t nm (t.2.2.1 f)) ++ ([45] ++ ([62] ++ (fb t nm (t.2.2.2 f) ++ [41]))) := by
          rw [show sgn 5 = [45] ++ [62] from rfl]; simp only [List.append_assoc]
        rw [shape]
        have start : GoesK K n s0 (f_X12_writeAll_0 n fu s7) (D ++ [40]) (h + 5) (ent s7) := GoesK.mk P7 h7 (by omega) (by rw [len_app]; simp; omega) (by omega) A7 (fun i hi => rfl)
        have shape0 : ((D ++ [40]) ++ fb t nm (t.2.2.1 f)) ++ ([45] ++ ([62] ++ (fb t nm (t.2.2.2 f) ++ [41]))) = (D ++ [40]) ++ (fb t nm (t.2.2.1 f) ++ ([45] ++ ([62] ++ (fb t nm (t.2.2.2 f) ++ [41])))) := by simp only [List.append_assoc]
        rw [shape0]
        refine start.seq (fun s8 fu8 r1 r2 r3 r4 r5 r6 => ?_)
        rw [← shape0]
        have g := ih _ hl.1 (by omega) (h + 4) fu8 s8 (D ++ [40]) (by omega) r1 r2 r3 r4 r5 ⟨0, 0, by rw [r6 _ (by omega), E7, if_pos rfl]⟩
        refine g.seq (fun s9 fu9 u1 u2 u3 u4 u5 u6 => ?_)
        have b := byteKM hK (n := n) (h := h + 3) (b := 45) u1 u2 u3 (by omega) u4 u5 ⟨0, 0, by rw [u6 _ (by omega), r6 _ (by omega), E7, if_neg (by omega), if_pos rfl]; rfl⟩ (by omega)
        rw [← List.append_assoc]
        refine b.seq (fun s10 fu10 v1 v2 v3 v4 v5 v6 => ?_)
        have b2 := byteKM hK (n := n) (h := h + 2) (b := 62) v1 v2 v3 (by omega) v4 v5 ⟨0, 0, by rw [v6 _ (by omega), u6 _ (by omega), r6 _ (by omega), E7, if_neg (by omega), if_neg (by omega), if_pos rfl]; rfl⟩ (by omega)
        rw [← List.append_assoc]
        refine b2.seq (fun s11 fu11 w1 w2 w3 w4 w5 w6 => ?_)
        rw [← List.append_assoc]
        exact rest s11 _ fu11 w1 w2 w3 w4 w5 (fun i hi => by rw [w6 _ (by omega), v6 _ (by omega), u6 _ (by omega), r6 _ (by omega), E7, if_neg (by omega), if_neg (by omega), if_neg (by omega)])
      · have hk5 : ¬ nI (t.2.1 f) = (5 : Int32) := fun e => k5 (nI_inj (b := 5) (by omega) (by omega) e)
        obtain ⟨sg, hsg1, hsg2, hsg3⟩ : ∃ sg, sgn (t.2.1 f) = [sg] ∧ sg < 128 ∧ f_X12_putFormula_178 n s4 (nI f) (nI (t.2.1 f)) = f_X12_putFormula_202 n s4 (nI f) (nI sg) 0 := by
          unfold f_X12_putFormula_178
          rw [if_neg hk5]
          by_cases c3 : t.2.1 f = 3
          · rw [c3, if_pos (by decide)]; exact ⟨38, rfl, by decide, rfl⟩
          · rw [if_neg (show ¬ nI (t.2.1 f) = (3 : Int32) from fun e => c3 (nI_inj (b := 3) (by omega) (by omega) e))]
            exact ⟨124, by unfold sgn; rw [if_neg k5, if_neg c3], by decide, rfl⟩
        rw [if_neg hk5, hsg3, hsg1]
        unfold f_X12_putFormula_202
        rw [pushM (h := h + 2) h4 (by omega), Option.bind_some, inB_nI (show f < 4200 by omega) (by omega), if_pos rfl, nI_cl (by omega)]
        have A6 := A4.tr (psh_ag s4 (h + 2) 0 (nI sg) 0 0)
        have P6 := psh_pg P4 (h + 2) 0 (nI sg) 0 0
        rw [((hM.agW A6).2 f hf).2.1, pushM (h := h + 3) psh_31 (by omega), Option.bind_some, Option.bind_some]
        have A7 := A6.tr (psh_ag (psh s4 (h + 2) 0 (nI sg) 0 0) (h + 3) 1 (nI (t.2.2.1 f)) 0 0)
        have P7 := psh_pg P6 (h + 3) 1 (nI (t.2.2.1 f)) 0 0
        have E7 : ∀ i, ent (psh (psh s4 (h + 2) 0 (nI sg) 0 0) (h + 3) 1 (nI (t.2.2.1 f)) 0 0) i = if i = h + 3 then (1, nI (t.2.2.1 f), 0, 0) else if i = h + 2 then (0, nI sg, 0, 0) else ent s4 i := fun i => by
          rw [psh_ent (by omega), psh_ent (by omega)]
        have h7 : (psh (psh s4 (h + 2) 0 (nI sg) 0 0) (h + 3) 1 (nI (t.2.2.1 f)) 0 0).1 31 = nI (h + 3 + 1) := rfl
        generalize psh (psh s4 (h + 2) 0 (nI sg) 0 0) (h + 3) 1 (nI (t.2.2.1 f)) 0 0 = s7 at A7 P7 E7 h7 ⊢
        have shape : (((D ++ [40]) ++ fb t nm (t.2.2.1 f)) ++ [sg]) ++ fb t nm (t.2.2.2 f) ++ [41] = ((D ++ [40]) ++ fb t nm (t.2.2.1 f)) ++ ([sg] ++ (fb t nm (t.2.2.2 f) ++ [41])) := by
          simp only [List.append_assoc]
        rw [shape]
        have start : GoesK K n s0 (f_X12_writeAll_0 n fu s7) (D ++ [40]) (h + 4) (ent s7) := GoesK.mk P7 h7 (by omega) (by rw [len_app]; simp; omega) (by omega) A7 (fun i hi => rfl)
        have shape0 : ((D ++ [40]) ++ fb t nm (t.2.2.1 f)) ++ ([sg] ++ (fb t nm (t.2.2.2 f) ++ [41])) = (D ++ [40]) ++ (fb t nm (t.2.2.1 f) ++ ([sg] ++ (fb t nm (t.2.2.2 f) ++ [41]))) := by simp only [List.append_assoc]
        rw [shape0]
        refine start.seq (fun s8 fu8 r1 r2 r3 r4 r5 r6 => ?_)
        rw [← shape0]
        have g := ih _ hl.1 (by omega) (h + 3) fu8 s8 (D ++ [40]) (by omega) r1 r2 r3 r4 r5 ⟨0, 0, by rw [r6 _ (by omega), E7, if_pos rfl]⟩
        refine g.seq (fun s9 fu9 u1 u2 u3 u4 u5 u6 => ?_)
        have b := byteKM hK (n := n) (h := h + 2) (b := sg) u1 u2 u3 (by omega) u4 u5 ⟨0, 0, by rw [u6 _ (by omega), r6 _ (by omega), E7, if_neg (by omega), if_pos rfl]⟩ hsg2
        rw [← List.append_assoc]
        refine b.seq (fun s11 fu11 w1 w2 w3 w4 w5 w6 => ?_)
        rw [← List.append_assoc]
        exact rest s11 _ fu11 w1 w2 w3 w4 w5 (fun i hi => by rw [w6 _ (by omega), u6 _ (by omega), r6 _ (by omega), E7, if_neg (by omega), if_neg (by omega)])
    · obtain ⟨s1, e1, e2, e3⟩ := atomM hn (hM.agW A1) hw (hN.agW A1) hNW hf (by omega) P1
      rw [e1, Option.bind_some]
      have ok := fb_ok hw hNW f hf
      exact GoesK.mk e2 (by rw [e3.1 31 (by decide)]; rfl) (by omega) (by rw [len_app]; omega) (by omega) (A1.tr e3.toW) (fun i hi => by rw [e3.entq]; rfl)
