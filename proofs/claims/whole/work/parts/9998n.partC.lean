/-! ===== proof: a part of a term is begun ===== -/
theorem pf_full {n fu : Nat} {s : StT} {x2 x3 : Int32} (h14 : s.1 14 = nI 8001) : f_X10_putFormula_12 n (fu + 1) s x2 x3 = some s := by
  have ho : f_X10_overflows n s = some (1, s) := by unfold f_X10_overflows; rw [h14, if_neg (by decide)]
  rw [f_X10_putFormula_12]
  by_cases c1 : (16000 : Int32) ≤ x3
  · rw [if_pos c1]
  · rw [if_neg c1]
    by_cases c2 : x2 < 0
    · rw [if_pos c2]
    · rw [if_neg c2]
      by_cases c3 : (2000 : Int32) ≤ x2
      · rw [if_pos c3]
      · rw [if_neg c3, ho, Option.bind_some]
        simp only []
        rw [if_neg (show ¬ (1 : Int32) = 0 by decide)]
theorem formX {n : Nat} (hn : 100000 ≤ n) {s : StT} {t : FT} {vn : Nat} {nm : Nat → List Nat} {D : List Nat} (hC : CFt s t) (hw : WFt t vn) (h7 : s.1 7 = nI vn) (hN : NmC s vn nm) (hNW : NmW vn nm) {f : Nat} (hf : f < t.1) (hP : PgX s D) : ∃ s', f_X10_putFormula n s (nI f) = some s' ∧ AgF s s' ∧ PgX s' (D ++ fb t nm f) := by
  by_cases c : D.length ≤ 8000
  · obtain ⟨s', a1, a2, a3⟩ := putFormulaC hn hC hw h7 hN hNW hf (hP.c c) c
    exact ⟨s', a1, a2, a3⟩
  · have hb := hw.2.1
    have h14 := hP.full (by omega)
    obtain ⟨q, rfl⟩ := Nat.exists_eq_succ_of_ne_zero (show n ≠ 0 by omega)
    refine ⟨uA s 14 (nI 0) (nI (4 * f)), ?_, AgF.path _ _ _, Or.inr ⟨by rw [len_app]; omega, h14⟩⟩
    unfold f_X10_putFormula
    rw [← nI_0, beginC (by omega) (by omega), Option.bind_some]
    exact pf_full h14
def preP (t : FT) (nm : Nat → List Nat) (k f b : Nat) : List Nat := if b = 0 then (if k = 76 then [76] ++ [40] ++ fb t nm f ++ [44] else [k] ++ [40]) else [44]
/-- what a binder binds: a node, or nothing -/
def BND (sC : StT) (c bb : Nat) : Prop := (sC.2.1 20 c = nI bb ∧ bb < c ∧ sC.2.1 16 bb = 104) ∨ (sC.2.1 20 c = -1 ∧ bb = 50000)
theorem bindP {n N : Nat} {sC s1 : StT} {D : List Nat} {c k b dp bb : Nat} (h16 : sC.1 16 = nI N) (hN : N ≤ 30027) (hc : c < N) (hk : k ∈ KDS) (hb : b < 4) (hA : AgTC sC s1) (hP : PgX s1 D) (h15 : s1.1 15 = nI dp) (hB : bndN k b = true → BND sC c bb) :
    ∃ s2, f_X10_putPartBegin_24_54 n s1 (nI c) (nI b) (nI k) = some s2 ∧ PgX s2 D ∧ AgTC s1 s2 ∧ s2.2.1 15 = s1.2.1 15 ∧ s2.1 15 = nI (dp + if bndN k b = true then 1 else 0) ∧ ∀ x, x < 40000 → s2.2.1 17 x = if bndN k b = true ∧ x = bb then nI dp else s1.2.1 17 x := by
  unfold f_X10_putPartBegin_24_54
  rw [bndE hk hb, Option.bind_some]
  simp only []
  cases hx : bndN k b with
  | false =>
    rw [if_pos (show mI false = 0 by decide)]
    refine ⟨s1, rfl, hP, AgTC.rf _, rfl, by rw [if_neg (by decide)]; exact h15, fun x _ => by rw [if_neg (fun e => by simp at e)]⟩
  | true =>
    rw [if_neg (show ¬ mI true = 0 by decide), h15]
    have s16 : s1.1 16 = nI N := by rw [hA.1 16 (by decide) (by decide)]; exact h16
    have s20 : s1.2.1 20 c = sC.2.1 20 c := by rw [hA.a (by decide)]
    rcases hB hx with ⟨e1, e2, e3⟩ | ⟨e1, e2⟩
    · rw [boundT (b := bb) s16 hN hc (by omega) (by rw [s20]; exact e1), Option.bind_some]
      refine ⟨uF (uA s1 17 (nI bb) (nI dp)) 15 (nI dp + 1), ?_, hP.ag rfl rfl, (AgTC.numb s1 (by omega) (by rw [hA.a (by decide)]; exact e3) _).tr (AgTC.around _ _), rfl, ?_, fun x hx2 => ?_⟩
      · simp only [uA_1, h15]
      · rw [if_pos rfl, ← nI_1]; rfl
      · simp only [uF_2, uA_21, if_true, upd_j, nI_cl (show bb < 2 ^ 31 by omega), true_and]
    · rw [boundT0 s16 hN hc (by rw [s20]; exact e1), Option.bind_some]
      refine ⟨uF s1 15 (nI dp + 1), by rw [h15], hP.ag rfl rfl, AgTC.around _ _, rfl, ?_, fun x hx2 => ?_⟩
      · rw [if_pos rfl, ← nI_1]; rfl
      · rw [if_neg (fun e => by omega)]; rfl
theorem openP {n N : Nat} (hn : 100000 ≤ n) {D : HD} {sC s1 : StT} {B : List Nat} {c k b dp bb f : Nat} (hC : CFt sC D.1) (hw : WFt D.1 D.2.1) (h7 : sC.1 7 = nI D.2.1) (hNm : NmC sC D.2.1 D.2.2.2) (hNW : NmW D.2.1 D.2.2.2) (h16 : sC.1 16 = nI N) (hN : N ≤ 30027) (hc : c < N) (hk : k ∈ KDS) (hkk : sC.2.1 16 c = nI k) (hb : b < prtN k) (hf : k = 76 → sC.2.1 18 c = nI f ∧ f < D.1.1) (hA : AgTC sC s1) (hP : PgX s1 B) (h15 : s1.1 15 = nI dp) (hB : bndN k b = true → BND sC c bb) :
    ∃ s2, f_X10_putPartBegin_24 n s1 (nI c) (nI b) = some s2 ∧ PgX s2 (B ++ preP D.1 D.2.2.2 k f b) ∧ AgTC s1 s2 ∧ s2.2.1 15 = s1.2.1 15 ∧ s2.1 15 = nI (dp + if bndN k b = true then 1 else 0) ∧ ∀ x, x < 40000 → s2.2.1 17 x = if bndN k b = true ∧ x = bb then nI dp else s1.2.1 17 x := by
  have hk128 : k < 128 := (show ∀ k, k ∈ KDS → k < 128 by decide) k hk
  have hb4 : b < 3 := by have := (show ∀ k, k ∈ KDS → prtN k ≤ 3 by decide) k hk; omega
  have s16 : ∀ {z : StT}, AgTC sC z → z.1 16 = nI N := fun hz => by rw [hz.1 16 (by decide) (by decide)]; exact h16
  unfold f_X10_putPartBegin_24
  rw [kindT (s16 hA) hN hc, Option.bind_some, hA.a (show 16 = 16 ∨ _ by decide), hkk]
  simp only []
  by_cases b0 : b = 0
  · subst b0
    rw [if_pos (show nI 0 ≤ (0 : Int32) by decide)]
    obtain ⟨s2, p1, p2, p3⟩ := putX (n := n) hP hk128
    obtain ⟨s3, q1, q2, q3⟩ := putX (n := n) (b := 40) p2 (by omega)
    rw [p1, Option.bind_some, show (40 : Int32) = nI 40 from rfl, q1, Option.bind_some]
    have A3 := p3.toT.tr q3.toT
    have f3 : s3.1 15 = nI dp := by rw [q3.1 15 (by decide), p3.1 15 (by decide)]; exact h15
    have t3 : s3.2.1 15 = s1.2.1 15 := by rw [q3.2.1 15 (by decide), p3.2.1 15 (by decide)]
    have u3 : s3.2.1 17 = s1.2.1 17 := by rw [q3.2.1 17 (by decide), p3.2.1 17 (by decide)]
    unfold f_X10_putPartBegin_24_32 preP
    rw [if_pos (show (0 : Nat) = 0 from rfl)]
    by_cases c76 : k = 76
    · have hff := hf c76
      rw [if_pos (by rw [c76]; decide), if_pos c76]
      have e18 : f_X7_formulaOf_T1 n s3 (nI c) = some (nI f, s3) := by
        unfold f_X7_formulaOf_T1
        rw [show (1 : Int32) = nI 1 from rfl, partT (s16 (hA.tr A3)) hN hc (by omega), Option.bind_some]
        simp only []
        rw [(hA.tr A3).a (show 17 + 1 = 16 ∨ _ by decide), hff.1]
      obtain ⟨s4, w1, w2, w3⟩ := formX hn (hC.agT (hA.tr A3)) hw (by rw [(hA.tr A3).1 7 (by decide) (by decide)]; exact h7) (hNm.agT (hA.tr A3)) hNW hff.2 q2
      obtain ⟨s5, v1, v2, v3⟩ := putX (n := n) (b := 44) w3 (by omega)
      rw [e18, Option.bind_some]
      simp only []
      rw [w1, Option.bind_some, show (44 : Int32) = nI 44 from rfl, v1, Option.bind_some]
      have A5 := (A3.tr w2.toT).tr v3.toT
      obtain ⟨s6, z1, z2, z3, z4, z5, z6⟩ := bindP (n := n) (b := 0) (dp := dp) (bb := bb) h16 hN hc hk (by omega) (hA.tr A5) v2 (by rw [v3.1 15 (by decide), w2.1 15 (by decide)]; exact f3) hB
      refine ⟨s6, z1, ?_, A5.tr z3, ?_, z5, fun x hx => ?_⟩
      · rw [← c76]; simp only [List.append_assoc] at z2 ⊢; exact z2
      · rw [z4, v3.2.1 15 (by decide), w2.2.1 15 (by decide) (by decide), t3]
      · rw [z6 x hx, v3.2.1 17 (by decide), w2.2.1 17 (by decide) (by decide), u3]
    · rw [if_neg (show ¬ nI k = (76 : Int32) from fun e => c76 (nI_inj (b := 76) (by omega) (by omega) e)), if_neg c76]
      obtain ⟨s6, z1, z2, z3, z4, z5, z6⟩ := bindP (n := n) (b := 0) (dp := dp) (bb := bb) h16 hN hc hk (by omega) (hA.tr A3) q2 f3 hB
      refine ⟨s6, z1, ?_, A3.tr z3, by rw [z4, t3], z5, fun x hx => by rw [z6 x hx, u3]⟩
      simp only [List.append_assoc] at z2 ⊢; exact z2
  · have n76 : k ≠ 76 := fun e => by rw [e] at hb; have : prtN 76 = 1 := rfl; omega
    rw [if_neg (nI_nle (by omega) (by omega))]
    obtain ⟨s2, p1, p2, p3⟩ := putX (n := n) (b := 44) hP (by omega)
    rw [show (44 : Int32) = nI 44 from rfl, p1, Option.bind_some]
    unfold f_X10_putPartBegin_24_32 preP
    rw [if_neg (show ¬ nI k = (76 : Int32) from fun e => n76 (nI_inj (b := 76) (by omega) (by omega) e)), if_neg b0]
    obtain ⟨s6, z1, z2, z3, z4, z5, z6⟩ := bindP (n := n) (b := b) (dp := dp) (bb := bb) h16 hN hc hk (by omega) (hA.tr p3.toT) p2 (by rw [p3.1 15 (by decide)]; exact h15) hB
    exact ⟨s6, z1, z2, p3.toT.tr z3, by rw [z4, p3.2.1 15 (by decide)], z5, fun x hx => by rw [z6 x hx, p3.2.1 17 (by decide)]⟩
/-- a part is begun and written -/
theorem RunT.part {n N : Nat} (hn : 100000 ≤ n) {D : HD} {sC s : StT} {r : Option StT} {B : List Nat} {c k b dp dp' dq bb f c' n' top : Nat} {S' NU' : Nat → Nat} {X : Nat → Prop} {E : List Nat} (hC : CFt sC D.1) (hw : WFt D.1 D.2.1) (h7 : sC.1 7 = nI D.2.1) (hNm : NmC sC D.2.1 D.2.2.2) (hNW : NmW D.2.1 D.2.2.2) (h16 : sC.1 16 = nI N) (hN : N ≤ 30027) (hc : c < N) (hk : k ∈ KDS) (hkk : sC.2.1 16 c = nI k) (hb : b < prtN k) (hf : k = 76 → sC.2.1 18 c = nI f ∧ f < D.1.1) (hB : bndN k b = true → BND sC c bb)
    (ht : 2 * top ≤ B.length) (ht2 : 0 < b → 2 * top + 2 ≤ B.length) (hc' : c' < c) (hpt : sC.2.1 (17 + b) c = nI c') (hk104 : k ≠ 104) (hdp : dp' = dp + if (decide (0 < b) && bndN k (b - 1)) = true then 1 else 0) (hd20 : dp ≤ 20 + B.length) (hdq : dq = dp + if bndN k b = true then 1 else 0)
    (hch : CCt n sC c' n' S' NU' dq E)
    (hnum : ∀ z, z < n' → S' z < 40000 → (bndN k b = true ∧ S' z = bb ∧ NU' z = dp) ∨ (¬ (bndN k b = true ∧ S' z = bb) ∧ X (S' z) ∧ s.2.1 17 (S' z) = nI (NU' z)))
    (hNU : ∀ z, z < n' → NU' z ≤ dq)
    (hX : ∀ x, x < 40000 → X x → ¬ (bndN k b = true ∧ x = bb) ∧ XX sC c' n' S' x)
    (g : RunT n sC s r B top c b dp' X) : RunT n sC s r (B ++ preP D.1 D.2.2.2 k f b ++ E) top c (b + 1) dq X := by
  rcases g with ⟨g1, s1, fu, turn, g2, g3, g4, g5, g6, g7, g8, g9, g10⟩ | ⟨g1, s1, g2, g3, g4, g5⟩
  · obtain ⟨fu, rfl⟩ := Nat.exists_eq_succ_of_ne_zero (show fu ≠ 0 by omega)
    have hb4 : b < 3 := by have := (show ∀ k, k ∈ KDS → prtN k ≤ 3 by decide) k hk; omega
    have hp3 := (show ∀ k, k ∈ KDS → prtN k ≤ 3 by decide) k hk
    have s16 : ∀ {z : StT}, AgTC sC z → z.1 16 = nI N := fun hz => by rw [hz.1 16 (by decide) (by decide)]; exact h16
    obtain ⟨s2, a1, a2, a3, a4, a5, a6, a7⟩ := pt_un (n := n) (fu := fu) (turn := turn) (s16 g6) hN hc g3 g1 (by omega) (by omega) g8 (by omega) hk (by rw [g6.a (by decide)]; exact hkk) _ rfl
    have h15 : s2.1 15 = nI dp := by
      rw [a5, g7, hdp]
      cases (decide (0 < b) && bndN k (b - 1)) with
      | false => rw [if_neg (by decide), if_neg (by decide)]; rfl
      | true => rw [if_pos rfl, if_pos rfl]; exact nI_m1
    have A2 := g6.tr a2
    obtain ⟨s3, b1, b2, b3, b4, b5, b6⟩ := openP (n := n) hn (D := D) (b := b) (dp := dp) (bb := bb) (f := f) hC hw h7 hNm hNW h16 hN hc hk hkk hb hf A2 a3 h15 hB
    have A3 := A2.tr b3
    have hpl : 1 ≤ (preP D.1 D.2.2.2 k f b).length ∧ (b = 0 → 2 ≤ (preP D.1 D.2.2.2 k f b).length) := by
      unfold preP
      split
      · split <;> simp <;> omega
      · rename_i hb0; exact ⟨by simp, fun e => absurd e hb0⟩
    have e17 : s3.2.1 (17 + b) c = nI c' := by
      rcases (show b = 0 ∨ b = 1 ∨ b = 2 by omega) with e | e | e
      · subst e; rw [A3.2.2.1 c (by rw [hkk]; exact fun e => hk104 (nI_inj (b := 104) (by have := (show ∀ k, k ∈ KDS → k < 128 by decide) k hk; omega) (by omega) e))]; exact hpt
      · subst e; rw [A3.a (show 17 + 1 = 16 ∨ _ by decide)]; exact hpt
      · subst e; rw [A3.a (show 17 + 2 = 16 ∨ _ by decide)]; exact hpt
    generalize hs4 : uA s3 15 (nI (top + 1)) (nI (4 * c')) = s4
    have A4 : AgTC sC s4 := by rw [← hs4]; exact A3.tr (AgTC.path _ _ _)
    have P4 : PgX s4 (B ++ preP D.1 D.2.2.2 k f b) := by rw [← hs4]; exact b2.ag rfl rfl
    have r15 : ∀ i, s4.2.1 15 i = if i = top + 1 then nI (4 * c') else s3.2.1 15 i := fun i => by
      rw [← hs4]; simp only [uA_21, if_true, upd_j, nI_cl (show top + 1 < 2 ^ 31 by omega)]
    have r17 : s4.2.1 17 = s3.2.1 17 := by rw [← hs4]; rfl
    have f15 : s4.1 15 = s3.1 15 := by rw [← hs4]; rfl
    have eR : r = f_X10_putTerm_24_13 n fu s4 (nI (top + 1)) (nI (turn + 1)) := by
      rw [g2, a1]
      unfold f_X10_putTerm_24_104
      rw [prtE hk, Option.bind_some]
      simp only []
      rw [if_neg (nI_ne0 (by omega) (by omega)), prtE hk, Option.bind_some]
      simp only []
      rw [if_neg (show ¬ nI b = nI (prtN k) from fun e => by have := nI_inj (by omega) (by omega) e; omega), b1, Option.bind_some, partT (s16 A3) hN hc hb4, Option.bind_some]
      simp only []
      rw [e17, nI_1, begin22 (by omega) (by omega), Option.bind_some]
      simp only []
      rw [nI_1, hs4]
    have k17 : ∀ x, x < 40000 → X x → s4.2.1 17 x = s.2.1 17 x := fun x h1 h2 => by
      rw [r17, b6 x h1, if_neg (hX x h1 h2).1, a4]; exact g10 x h1 h2
    by_cases cD : (B ++ preP D.1 D.2.2.2 k f b).length ≤ 8000
    · have hlen : (B ++ preP D.1 D.2.2.2 k f b).length = B.length + (preP D.1 D.2.2.2 k f b).length := len_app
      have hpl2 : b = 0 ∨ 1 ≤ b := by omega
      have G := hch (top + 1) (turn + 1) fu s4 (B ++ preP D.1 D.2.2.2 k f b) A4 (P4.c cD) cD (by omega) (by omega) (by
        rcases hpl2 with e | e
        · have := hpl.2 e; omega
        · have := ht2 e; omega) (by rw [r15, if_pos rfl]) (by rw [f15, b5, ← hdq]) (fun z h1 h2 => by
        rcases hnum z h1 h2 with ⟨x1, x2, x3⟩ | ⟨x1, x2, x3⟩
        · rw [r17, b6 _ h2, if_pos ⟨x1, x2⟩, x3]
        · rw [k17 _ h2 x2, x3]) (by rw [hdq]; split <;> omega) hNU
      rcases G with ⟨q1, s5, fu5, tu5, q2, q3, q4, q5, q6, q7, q8, q9⟩ | ⟨q1, s5, q2, q3, q4, q5⟩
      · refine Or.inl ⟨q1, s5, fu5, tu5, by rw [eR, q2, nI_m1], q3, q4, q5, q6, q7, ?_, fun i hi => ?_, fun x h1 h2 => ?_⟩
        · rw [q8 top (by omega), r15, if_neg (by omega), b4, a6]
        · rw [q8 i (by omega), r15, if_neg (by omega), b4, a7 i (by omega)]; exact g9 i hi
        · rw [q9 x h1 (hX x h1 h2).2]; exact k17 x h1 h2
      · refine Or.inr ⟨q1, s5, by rw [eR, q2], q3, q4, fun x h1 h2 => ?_⟩
        rw [q5 x h1 (hX x h1 h2).2]; exact k17 x h1 h2
    · obtain ⟨fu, rfl⟩ := Nat.exists_eq_succ_of_ne_zero (show fu ≠ 0 by omega)
      refine Or.inr ⟨by rw [len_app]; omega, s4, by rw [eR, pt_stop (P4.full (by omega))], P4.full (by omega), A4, k17⟩
  · exact Or.inr ⟨by rw [len_app, len_app]; omega, s1, g2, g3, g4, g5⟩
