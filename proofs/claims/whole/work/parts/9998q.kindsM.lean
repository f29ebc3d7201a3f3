/-! ===== proof: every kind of term, in the reference ===== -/
theorem psh_lo {s : StT} {h : Nat} {x1 x2 x3 x4 : Int32} (j : Nat) (hj : j < 33) : (psh s h x1 x2 x3 x4).2.1 j = s.2.1 j := by
  unfold psh; simp only [uF_2, uA_21]; rw [if_neg (by omega), if_neg (by omega), if_neg (by omega), if_neg (by omega)]
theorem chS_lo {s : StT} {cn : Nat} {x y z : Int32} (j : Nat) (hj : j < 37) : (chS s cn x y z).2.1 j = s.2.1 j := by
  unfold chS; simp only [uF_2, uA_21]; rw [if_neg (by omega), if_neg (by omega), if_neg (by omega)]
theorem updN_at (f : Nat → Nat) (k v : Nat) : updN f k v k = v := by unfold updN; rw [if_pos rfl]
theorem updN_ne (f : Nat → Nat) {k i : Nat} (v : Nat) (h : i ≠ k) : updN f k v i = f i := by unfold updN; rw [if_neg h]
theorem AgW.lo {s s' : StT} (h : AgW s s') {j : Nat} (hj : 13 < j ∧ j < 19) : s'.2.1 j = s.2.1 j := h.2.1 j (by omega) (by omega) (by omega) (by omega) (by omega)
theorem AgTM.lo {s s' : StT} (h : AgTM s s') {j : Nat} (hj : 13 < j ∧ j < 19) : s'.2.1 j = s.2.1 j := h.2.1 j (by omega) (by omega)
theorem MM_moved {n : Nat} (hn : 100000 ≤ n) {sM : StT} {r r1 n0 m dp : Nat} {NU : Nat → Nat} {E : List Nat} (hr : r < 60000) (hn0 : n0 < 1000) (k1 : sM.2.1 14 r = 77) (hm : m ≤ n0) (h1 : r1 < r) (k2 : sM.2.1 15 r = nI m) (k3 : sM.2.1 16 r = nI r1) (a : MMt n sM r1 m NU dp E) : MMt n sM r n0 NU dp E := by
  have hKT : KT = 486608110 := rfl
  intro h fu cn s D x hA hP hD hh h31 hfu he h32 hcn hc hd hN
  obtain ⟨fu, rfl⟩ := Nat.exists_eq_succ_of_ne_zero (show fu ≠ 0 by omega)
  have e14 : ∀ j, 13 < j ∧ j < 19 → (uF s 31 (nI h)).2.1 j r = sM.2.1 j r := fun j hj => by show s.2.1 j r = _; rw [hA.lo hj]
  have hc0 : CHn (uF s 31 (nI h)) cn NU n0 x := hc.mv (s := s) (s' := uF s 31 (nI h)) (Nat.le_refl _) (fun _ _ _ _ _ => rfl) (fun _ _ => rfl)
  obtain ⟨x', b1, b2⟩ := CHn.cut (n := n) (m := m) (by omega) n0 x n hc0 hm (by omega) (by omega)
  have ep : f_X12_putTerm n (uF s 31 (nI h)) (nI r) x (nI dp) = some (psh (uF s 31 (nI h)) h 2 (nI r1) x' (nI dp)) := by
    unfold f_X12_putTerm f_X12_cutChain
    rw [inB_nI hr (by omega), if_pos rfl, nI_cl (show r < 2 ^ 31 by omega), e14 14 (by decide), k1, if_pos rfl, if_pos rfl, if_pos rfl, e14 15 (by decide), k2, b1, Option.bind_some]
    simp only []
    rw [e14 16 (by decide), k3, pushM (h := h) rfl (by omega), Option.bind_some]
  rw [popT hP hD h31 (by omega) he, ep, Option.bind_some]
  have ee : ∀ i, ent (psh (uF s 31 (nI h)) h 2 (nI r1) x' (nI dp)) i = if i = h then (2, nI r1, x', nI dp) else ent s i := fun i => by rw [psh_ent (by omega)]; rfl
  refine (a h fu cn _ D x' (hA.tr ((AgW.pop s (nI h)).tr (psh_ag ..)).toT) (psh_pg (PgM.pop hP _) ..) hD hh psh_31 (by omega) (by rw [ee, if_pos rfl]) h32 hcn (b2.mv (Nat.le_refl _) (fun j c y z w => by rw [psh_ch j y]) (fun _ _ => rfl)) hd (fun k hk => hN k (by omega))).base (fun i hi => by rw [ee, if_neg (by omega)]) (Nat.le_refl _) (fun j c y z w => by rw [psh_ch j y]; rfl)
theorem MM_hyp {n : Nat} (hn : 100000 ≤ n) {sM : StT} {r k n0 dp : Nat} {NU : Nat → Nat} (hr : r < 60000) (hn0 : n0 < 1000) (k1 : sM.2.1 14 r = 72) (hk : k < n0) (k2 : sM.2.1 15 r = nI k) : MMt n sM r n0 NU dp ([104] ++ dgP (NU k) 9) := by
  have hKT : KT = 486608110 := rfl
  intro h fu cn s D x hA hP hD hh h31 hfu he h32 hcn hc hd hN
  obtain ⟨fu, rfl⟩ := Nat.exists_eq_succ_of_ne_zero (show fu ≠ 0 by omega)
  have e14 : ∀ j, 13 < j ∧ j < 19 → (uF s 31 (nI h)).2.1 j r = sM.2.1 j r := fun j hj => by show s.2.1 j r = _; rw [hA.lo hj]
  have hc0 : CHn (uF s 31 (nI h)) cn NU n0 x := hc.mv (s := s) (s' := uF s 31 (nI h)) (Nat.le_refl _) (fun _ _ _ _ _ => rfl) (fun _ _ => rfl)
  obtain ⟨x', b1, b2⟩ := CHn.cut (n := n) (m := k + 1) (by omega) n0 x n hc0 (by omega) (by omega) (by omega)
  obtain ⟨c, c1, c2, c3, c4, c5⟩ := b2
  have hNk := hN k hk
  obtain ⟨s1, p1, p2, p3⟩ := putM (n := n) (b := 104) (PgM.pop hP (nI h)) (by omega)
  obtain ⟨s2, q1, q2, q3⟩ := putR_ok (n := n) (dgP (NU k) 9) s1 _ p2 (dgP_ok _ _).2
  have e38 : s1.2.1 38 c = nI (NU k) := by rw [p3.2.1 38 (by decide)]; exact c4
  have ep : f_X12_putTerm n (uF s 31 (nI h)) (nI r) x (nI dp) = some s2 := by
    unfold f_X12_putTerm f_X12_cutChain
    rw [inB_nI hr (by omega), if_pos rfl, nI_cl (show r < 2 ^ 31 by omega), e14 14 (by decide), k1, if_neg (by decide), if_pos rfl, if_pos rfl, e14 15 (by decide), k2, nI_1, b1, Option.bind_some]
    simp only []
    rw [show (104 : Int32) = nI 104 from rfl, p1, Option.bind_some, c2, inB_nI (show c < 60000 by omega) (by omega), if_pos rfl, nI_cl (by omega), e38, numM hn (show NU k < 10000 by omega), q1, Option.bind_some]
  rw [popT hP hD h31 (by omega) he, ep, Option.bind_some]
  have A2 : AgW s s2 := ((AgW.pop s (nI h)).tr p3.toW).tr q3.toW
  have l1 := (dgP_ok (NU k) 9).1
  rw [← List.append_assoc]
  refine GoesR.mk q2 (by rw [q3.1 31 (by decide), p3.1 31 (by decide)]; rfl) ?_ (by omega) (hA.tr A2.toT) (fun i _ => by rw [q3.entq, p3.entq]; rfl) (by rw [A2.1 32 (by decide) (by decide)]; exact h32) (Nat.le_refl _) ?_ (fun j c y z w => by rw [A2.2.1 j (by omega) (by omega) (by omega) (by omega) (by omega)])
  · simp only [len_app, List.length_singleton]; omega
  · simp only [len_app, List.length_singleton]; omega
theorem MM_unit {n : Nat} {sM : StT} {r n0 dp : Nat} {NU : Nat → Nat} (hr : r < 60000) (k1 : sM.2.1 14 r = 84) : MMt n sM r n0 NU dp [84] := by
  have hKT : KT = 486608110 := rfl
  intro h fu cn s D x hA hP hD hh h31 hfu he h32 hcn hc hd hN
  obtain ⟨fu, rfl⟩ := Nat.exists_eq_succ_of_ne_zero (show fu ≠ 0 by omega)
  have e14 : (uF s 31 (nI h)).2.1 14 r = 84 := by show s.2.1 14 r = _; rw [hA.lo (by decide)]; exact k1
  obtain ⟨s1, p1, p2, p3⟩ := putM (n := n) (b := 84) (PgM.pop hP (nI h)) (by omega)
  have ep : f_X12_putTerm n (uF s 31 (nI h)) (nI r) x (nI dp) = some s1 := by
    unfold f_X12_putTerm
    rw [inB_nI hr (by omega), if_pos rfl, nI_cl (show r < 2 ^ 31 by omega), e14, if_neg (by decide), if_neg (by decide), show (84 : Int32) = nI 84 from rfl, p1, Option.bind_some, if_pos rfl]
  rw [popT hP hD h31 (by omega) he, ep, Option.bind_some]
  have A2 : AgW s s1 := (AgW.pop s (nI h)).tr p3.toW
  refine GoesR.mk p2 (by rw [p3.1 31 (by decide)]; rfl) ?_ (by omega) (hA.tr A2.toT) (fun i _ => by rw [p3.entq]; rfl) (by rw [A2.1 32 (by decide) (by decide)]; exact h32) (Nat.le_refl _) ?_ (fun j c y z w => by rw [A2.2.1 j (by omega) (by omega) (by omega) (by omega) (by omega)])
  · simp only [len_app, List.length_singleton]; omega
  · simp only [len_app, List.length_singleton]; omega
theorem MM_one {n : Nat} {sM : StT} {r r1 k n0 dp : Nat} {NU : Nat → Nat} {E1 : List Nat} (hr : r < 60000) (hk : k ∈ [70, 83, 73, 74, 88]) (k1 : sM.2.1 14 r = nI k) (k2 : sM.2.1 16 r = nI r1) (k3 : sM.2.1 17 r = -1) (l1 : 1 ≤ E1.length) (a : MMt n sM r1 n0 NU dp E1) : MMt n sM r n0 NU dp ([k] ++ [40] ++ E1 ++ [41]) := by
  have hKT : KT = 486608110 := rfl
  have hkk : k ∈ [65, 67, 70, 73, 74, 76, 80, 83, 88] := (show ∀ k, k ∈ [70, 83, 73, 74, 88] → k ∈ [65, 67, 70, 73, 74, 76, 80, 83, 88] by decide) k hk
  have hkn : nI k ≠ (76 : Int32) ∧ nI k ≠ (67 : Int32) := (show ∀ k, k ∈ [70, 83, 73, 74, 88] → nI k ≠ (76 : Int32) ∧ nI k ≠ (67 : Int32) by decide) k hk
  intro h fu cn s D x hA hP hD hh h31 hfu he h32 hcn hc hd hN
  obtain ⟨fu, rfl⟩ := Nat.exists_eq_succ_of_ne_zero (show fu ≠ 0 by omega)
  obtain ⟨s3, b1, b2, b3, b4, b5, b6⟩ := headR (n := n) (h := h) (dp := dp) hA hP (by omega) hr hkk k1 (by omega) hc
  have A3 := hA.tr b4.toT
  obtain ⟨c1, c2, c3, c4, c5, c6⟩ := pushes_ok [(2, nI r1, x, nI dp)] (h + 1) s3 (by simp; omega) b3
  have ep : f_X12_putTerm n (uF s 31 (nI h)) (nI r) x (nI dp) = some (pushes [(2, nI r1, x, nI dp)] (h + 1) s3) := by
    rw [b1]
    unfold f_X12_putTerm_122 f_X12_putTerm_281
    rw [if_neg hkn.1, if_neg hkn.2, inB_nI hr (by omega), if_pos rfl, nI_cl (show r < 2 ^ 31 by omega), A3.lo (show 13 < 17 ∧ 17 < 19 by decide), k3, if_pos (show (-1 : Int32) < 0 by decide), if_pos rfl, A3.lo (show 13 < 16 ∧ 16 < 19 by decide), k2, pushM b3 (by omega), Option.bind_some]
    rfl
  rw [popT hP hD h31 (by omega) he, ep, Option.bind_some]
  generalize hs4 : pushes [(2, nI r1, x, nI dp)] (h + 1) s3 = s4 at c1 c2 c3 c4 c5 c6 ⊢
  have hl : (D ++ [k] ++ [40]).length = D.length + 2 := by simp
  have hcs : CHn s4 cn NU n0 x := hc.mv (Nat.le_refl _) (fun j c y z w => by rw [c6 j y, b6 j y]) (fun _ _ => rfl)
  have t := tailR (n := n) (sM := sM) (s := s) (s3 := s3) (s4 := s4) (D := D) (D1 := D ++ [k] ++ [40]) (h := h) (fu := fu) (cn := cn) (cn1 := cn) [((2, nI r1, x, nI dp), E1), ((0, nI 41, 0, 0), [41])] (A3.tr c1.toT) (c2 _ b2) hl hh (by simp) (by rw [c3]; rfl) (by omega) (by omega) (fun i q hq => by
    have hi : i < 2 := by
      rcases Nat.lt_or_ge i 2 with z | z
      · exact z
      · rw [List.getElem?_eq_none (by simpa using z)] at hq; cases hq
    rcases (show i = 0 ∨ i = 1 by omega) with e | e <;> subst e
    · have hq := Option.some.inj hq
      rw [← hq]; exact c5 0 _ rfl
    · have hq := Option.some.inj hq
      rw [← hq]
      show ent s4 h = _
      rw [c4 h (by omega), b5, if_pos rfl]) (fun i hi => by rw [c4 i (by omega), b5, if_neg (by omega)]) (by rw [c1.1 32 (by decide) (by decide), b4.1 32 (by decide) (by decide)]; exact h32) (Nat.le_refl _) (by omega) (fun j c y z w => by rw [c6 j y, b6 j y])
    (List.forall_mem_cons.mpr ⟨IT.term l1 a hcs (by omega) hN, List.forall_mem_cons.mpr ⟨IT.byte (by omega), fun q hq => nomatch hq⟩⟩)
  have ec : D ++ ([k] ++ [40] ++ E1 ++ [41]) = (D ++ [k] ++ [40]) ++ catE [((2, nI r1, x, nI dp), E1), ((0, nI 41, 0, 0), [41])] := by unfold catE; simp
  rw [ec]; exact t
theorem MM_two {n : Nat} {sM : StT} {r r1 r2 k n0 dp : Nat} {NU : Nat → Nat} {E1 E2 : List Nat} (hr : r < 60000) (hk : k ∈ [65, 80]) (k1 : sM.2.1 14 r = nI k) (k2 : sM.2.1 16 r = nI r1) (k3 : sM.2.1 17 r = nI r2) (hr2 : r2 < r) (l1 : 1 ≤ E1.length) (l2 : 1 ≤ E2.length) (a : MMt n sM r1 n0 NU dp E1) (a2 : MMt n sM r2 n0 NU dp E2) : MMt n sM r n0 NU dp ([k] ++ [40] ++ E1 ++ [44] ++ E2 ++ [41]) := by
  have hKT : KT = 486608110 := rfl
  have hkk : k ∈ [65, 67, 70, 73, 74, 76, 80, 83, 88] := (show ∀ k, k ∈ [65, 80] → k ∈ [65, 67, 70, 73, 74, 76, 80, 83, 88] by decide) k hk
  have hkn : nI k ≠ (76 : Int32) ∧ nI k ≠ (67 : Int32) := (show ∀ k, k ∈ [65, 80] → nI k ≠ (76 : Int32) ∧ nI k ≠ (67 : Int32) by decide) k hk
  intro h fu cn s D x hA hP hD hh h31 hfu he h32 hcn hc hd hN
  obtain ⟨fu, rfl⟩ := Nat.exists_eq_succ_of_ne_zero (show fu ≠ 0 by omega)
  obtain ⟨s3, b1, b2, b3, b4, b5, b6⟩ := headR (n := n) (h := h) (dp := dp) hA hP (by omega) hr hkk k1 (by omega) hc
  have A3 := hA.tr b4.toT
  obtain ⟨c1, c2, c3, c4, c5, c6⟩ := pushes_ok [(2, nI r2, x, nI dp), (0, nI 44, 0, 0), (2, nI r1, x, nI dp)] (h + 1) s3 (by simp; omega) b3
  have ep : f_X12_putTerm n (uF s 31 (nI h)) (nI r) x (nI dp) = some (pushes [(2, nI r2, x, nI dp), (0, nI 44, 0, 0), (2, nI r1, x, nI dp)] (h + 1) s3) := by
    rw [b1]
    unfold f_X12_putTerm_122 f_X12_putTerm_281
    rw [if_neg hkn.1, if_neg hkn.2, inB_nI hr (by omega), if_pos rfl, nI_cl (show r < 2 ^ 31 by omega), A3.lo (show 13 < 17 ∧ 17 < 19 by decide), k3, if_neg (nI_nneg (by omega)), if_pos rfl, pushM b3 (by omega), Option.bind_some, pushM psh_31 (by omega), Option.bind_some, if_pos rfl, psh_lo 16 (by decide), psh_lo 16 (by decide), A3.lo (show 13 < 16 ∧ 16 < 19 by decide), k2, pushM psh_31 (by omega), Option.bind_some]
    rfl
  rw [popT hP hD h31 (by omega) he, ep, Option.bind_some]
  generalize hs4 : pushes [(2, nI r2, x, nI dp), (0, nI 44, 0, 0), (2, nI r1, x, nI dp)] (h + 1) s3 = s4 at c1 c2 c3 c4 c5 c6 ⊢
  have hl : (D ++ [k] ++ [40]).length = D.length + 2 := by simp
  have hcs : CHn s4 cn NU n0 x := hc.mv (Nat.le_refl _) (fun j c y z w => by rw [c6 j y, b6 j y]) (fun _ _ => rfl)
  have t := tailR (n := n) (sM := sM) (s := s) (s3 := s3) (s4 := s4) (D := D) (D1 := D ++ [k] ++ [40]) (h := h) (fu := fu) (cn := cn) (cn1 := cn) [((2, nI r1, x, nI dp), E1), ((0, nI 44, 0, 0), [44]), ((2, nI r2, x, nI dp), E2), ((0, nI 41, 0, 0), [41])] (A3.tr c1.toT) (c2 _ b2) hl hh (by simp) (by rw [c3]; rfl) (by omega) (by omega) (fun i q hq => by
    have hi : i < 4 := by
      rcases Nat.lt_or_ge i 4 with z | z
      · exact z
      · rw [List.getElem?_eq_none (by simpa using z)] at hq; cases hq
    rcases (show i = 0 ∨ i = 1 ∨ i = 2 ∨ i = 3 by omega) with e | e | e | e <;> subst e
    · have hq := Option.some.inj hq
      rw [← hq]; exact c5 2 _ rfl
    · have hq := Option.some.inj hq
      rw [← hq]; exact c5 1 _ rfl
    · have hq := Option.some.inj hq
      rw [← hq]; exact c5 0 _ rfl
    · have hq := Option.some.inj hq
      rw [← hq]
      show ent s4 h = _
      rw [c4 h (by omega), b5, if_pos rfl]) (fun i hi => by rw [c4 i (by omega), b5, if_neg (by omega)]) (by rw [c1.1 32 (by decide) (by decide), b4.1 32 (by decide) (by decide)]; exact h32) (Nat.le_refl _) (by omega) (fun j c y z w => by rw [c6 j y, b6 j y])
    (List.forall_mem_cons.mpr ⟨IT.term l1 a hcs (by omega) hN, List.forall_mem_cons.mpr ⟨IT.byte (by omega), List.forall_mem_cons.mpr ⟨IT.term l2 a2 hcs (by omega) hN, List.forall_mem_cons.mpr ⟨IT.byte (by omega), fun q hq => nomatch hq⟩⟩⟩⟩)
  have ec : D ++ ([k] ++ [40] ++ E1 ++ [44] ++ E2 ++ [41]) = (D ++ [k] ++ [40]) ++ catE [((2, nI r1, x, nI dp), E1), ((0, nI 44, 0, 0), [44]), ((2, nI r2, x, nI dp), E2), ((0, nI 41, 0, 0), [41])] := by unfold catE; simp
  rw [ec]; exact t
theorem MM_lam {n : Nat} (hn : 100000 ≤ n) {D0 : HD} {sM : StT} {r r1 f n0 dp : Nat} {NU : Nat → Nat} {E1 : List Nat} (hM : MF sM D0.1) (hw : WFt D0.1 D0.2.1) (hNm : NmM sM D0.2.1 D0.2.2.2) (hNW : NmW D0.2.1 D0.2.2.2) (hr : r < 60000) (k1 : sM.2.1 14 r = 76) (k2 : sM.2.1 16 r = nI r1) (k3 : sM.2.1 15 r = nI f) (hf : f < D0.1.1) (l1 : 1 ≤ E1.length) (a : MMt n sM r1 (n0 + 1) (updN NU n0 dp) (dp + 1) E1) : MMt n sM r n0 NU dp ([76] ++ [40] ++ fb D0.1 D0.2.2.2 f ++ [44] ++ E1 ++ [41]) := by
  have hKT : KT = 486608110 := rfl
  intro h fu cn s D x hA hP hD hh h31 hfu he h32 hcn hc hd hN
  obtain ⟨fu, rfl⟩ := Nat.exists_eq_succ_of_ne_zero (show fu ≠ 0 by omega)
  obtain ⟨s3, b1, b2, b3, b4, b5, b6⟩ := headR (n := n) (h := h) (k := 76) (dp := dp) hA hP (by omega) hr (by decide) k1 (by omega) hc
  have A3 := hA.tr b4.toT
  have s32 : s3.1 32 = nI cn := by rw [b4.1 32 (by decide) (by decide)]; exact h32
  have hc3 : CHn s3 cn NU n0 x := hc.mv (Nat.le_refl _) (fun j c y z w => by rw [b6 j y]) (fun _ _ => rfl)
  have hcS := chS_CH (dp := dp) (show cn < 60000 by omega) hc3
  have agS := chS_ag s3 cn x (nI dp) (nI (n0 + 1))
  have lowS := chS_low (s := s3) (x := x) (y := nI dp) (z := nI (n0 + 1)) (show cn < 60000 by omega)
  have entS := chS_ent (s := s3) (cn := cn) (x := x) (y := nI dp) (z := nI (n0 + 1))
  have loS := chS_lo (s := s3) (cn := cn) (x := x) (y := nI dp) (z := nI (n0 + 1))
  have pgS : PgM (chS s3 cn x (nI dp) (nI (n0 + 1))) (D ++ [76] ++ [40]) := ⟨b2.1, b2.2⟩
  have f31 : (chS s3 cn x (nI dp) (nI (n0 + 1))).1 31 = nI (h + 1) := b3
  have f32 : (chS s3 cn x (nI dp) (nI (n0 + 1))).1 32 = nI (cn + 1) := rfl
  have eS := chainM (n := n) (x := x) (y := nI dp) (z := nI (n0 + 1)) s32 (by omega)
  generalize chS s3 cn x (nI dp) (nI (n0 + 1)) = sS at hcS agS lowS entS loS pgS f31 f32 eS
  obtain ⟨c1, c2, c3, c4, c5, c6⟩ := pushes_ok [(2, nI r1, nI cn, nI (dp + 1)), (0, nI 44, 0, 0), (1, nI f, 0, 0)] (h + 1) sS (by simp; omega) f31
  have ep : f_X12_putTerm n (uF s 31 (nI h)) (nI r) x (nI dp) = some (pushes [(2, nI r1, nI cn, nI (dp + 1)), (0, nI 44, 0, 0), (1, nI f, 0, 0)] (h + 1) sS) := by
    rw [b1]
    unfold f_X12_putTerm_122
    rw [if_pos (show nI 76 = (76 : Int32) by decide), inB_nI hr (by omega), if_pos rfl, nI_cl (show r < 2 ^ 31 by omega), nI_1, eS, Option.bind_some]
    simp only []
    rw [A3.lo (show 13 < 16 ∧ 16 < 19 by decide), k2, nI_1, pushM f31 (by omega), Option.bind_some, pushM psh_31 (by omega), Option.bind_some, if_pos trivial, psh_lo 15 (by decide), psh_lo 15 (by decide), loS 15 (by decide), A3.lo (show 13 < 15 ∧ 15 < 19 by decide), k3, pushM psh_31 (by omega), Option.bind_some]
    rfl
  rw [popT hP hD h31 (by omega) he, ep, Option.bind_some]
  generalize hs4 : pushes [(2, nI r1, nI cn, nI (dp + 1)), (0, nI 44, 0, 0), (1, nI f, 0, 0)] (h + 1) sS = s4 at c1 c2 c3 c4 c5 c6 ⊢
  have hl : (D ++ [76] ++ [40]).length = D.length + 2 := by simp
  have hcs : CHn s4 (cn + 1) (updN NU n0 dp) (n0 + 1) (nI cn) := hcS.mv (Nat.le_refl _) (fun j c y z w => by rw [c6 j y]) (fun _ _ => rfl)
  have hN' : ∀ k, k < n0 + 1 → updN NU n0 dp k ≤ dp + 1 := fun k hk => by
    by_cases e : k = n0
    · rw [e, updN_at]; omega
    · rw [updN_ne _ _ e]; have := hN k (by omega); omega
  have t := tailR (n := n) (sM := sM) (s := s) (s3 := s3) (s4 := s4) (D := D) (D1 := D ++ [76] ++ [40]) (h := h) (fu := fu) (cn := cn) (cn1 := cn + 1) [((1, nI f, 0, 0), fb D0.1 D0.2.2.2 f), ((0, nI 44, 0, 0), [44]), ((2, nI r1, nI cn, nI (dp + 1)), E1), ((0, nI 41, 0, 0), [41])] ((A3.tr agS).tr c1.toT) (c2 _ pgS) hl hh (by simp) (by rw [c3]; rfl) (by omega) (by omega) (fun i q hq => by
    have hi : i < 4 := by
      rcases Nat.lt_or_ge i 4 with z | z
      · exact z
      · rw [List.getElem?_eq_none (by simpa using z)] at hq; cases hq
    rcases (show i = 0 ∨ i = 1 ∨ i = 2 ∨ i = 3 by omega) with e | e | e | e <;> subst e
    · have hq := Option.some.inj hq
      rw [← hq]; exact c5 2 _ rfl
    · have hq := Option.some.inj hq
      rw [← hq]; exact c5 1 _ rfl
    · have hq := Option.some.inj hq
      rw [← hq]; exact c5 0 _ rfl
    · have hq := Option.some.inj hq
      rw [← hq]
      show ent s4 h = _
      rw [c4 h (by omega), entS, b5, if_pos rfl]) (fun i hi => by rw [c4 i (by omega), entS, b5, if_neg (by omega)]) (by rw [c1.1 32 (by decide) (by decide)]; exact f32) (by omega) (by omega) (fun j c y z w => by rw [c6 j y, lowS j c y z w, b6 j y])
    (List.forall_mem_cons.mpr ⟨IT.form hn hM hw hNm hNW hf, List.forall_mem_cons.mpr ⟨IT.byte (by omega), List.forall_mem_cons.mpr ⟨IT.term l1 a hcs (by omega) hN', List.forall_mem_cons.mpr ⟨IT.byte (by omega), fun q hq => nomatch hq⟩⟩⟩⟩)
  have ec : D ++ ([76] ++ [40] ++ fb D0.1 D0.2.2.2 f ++ [44] ++ E1 ++ [41]) = (D ++ [76] ++ [40]) ++ catE [((1, nI f, 0, 0), fb D0.1 D0.2.2.2 f), ((0, nI 44, 0, 0), [44]), ((2, nI r1, nI cn, nI (dp + 1)), E1), ((0, nI 41, 0, 0), [41])] := by unfold catE; simp
  rw [ec]; exact t
theorem MM_cas {n : Nat} {sM : StT} {r r1 r2 r3 n0 dp : Nat} {NU : Nat → Nat} {E1 E2 E3 : List Nat} (hr : r < 60000) (k1 : sM.2.1 14 r = 67) (k2 : sM.2.1 16 r = nI r1) (k3 : sM.2.1 17 r = nI r2) (k4 : sM.2.1 18 r = nI r3) (l1 : 1 ≤ E1.length) (l2 : 1 ≤ E2.length) (l3 : 1 ≤ E3.length) (a : MMt n sM r1 n0 NU dp E1) (a2 : MMt n sM r2 (n0 + 1) (updN NU n0 dp) (dp + 1) E2) (a3 : MMt n sM r3 (n0 + 1) (updN NU n0 dp) (dp + 1) E3) : MMt n sM r n0 NU dp ([67] ++ [40] ++ E1 ++ [44] ++ E2 ++ [44] ++ E3 ++ [41]) := by
  have hKT : KT = 486608110 := rfl
  intro h fu cn s D x hA hP hD hh h31 hfu he h32 hcn hc hd hN
  obtain ⟨fu, rfl⟩ := Nat.exists_eq_succ_of_ne_zero (show fu ≠ 0 by omega)
  obtain ⟨s3, b1, b2, b3, b4, b5, b6⟩ := headR (n := n) (h := h) (k := 67) (dp := dp) hA hP (by omega) hr (by decide) k1 (by omega) hc
  have A3 := hA.tr b4.toT
  have s32 : s3.1 32 = nI cn := by rw [b4.1 32 (by decide) (by decide)]; exact h32
  have hc3 : CHn s3 cn NU n0 x := hc.mv (Nat.le_refl _) (fun j c y z w => by rw [b6 j y]) (fun _ _ => rfl)
  have hcS := chS_CH (dp := dp) (show cn < 60000 by omega) hc3
  have hcx := hc3.mv (cn' := cn + 1) (NU' := NU) (Nat.le_succ _) (chS_low (s := s3) (x := x) (y := nI dp) (z := nI (n0 + 1)) (show cn < 60000 by omega)) (fun _ _ => rfl)
  have agS := chS_ag s3 cn x (nI dp) (nI (n0 + 1))
  have lowS := chS_low (s := s3) (x := x) (y := nI dp) (z := nI (n0 + 1)) (show cn < 60000 by omega)
  have entS := chS_ent (s := s3) (cn := cn) (x := x) (y := nI dp) (z := nI (n0 + 1))
  have loS := chS_lo (s := s3) (cn := cn) (x := x) (y := nI dp) (z := nI (n0 + 1))
  have pgS : PgM (chS s3 cn x (nI dp) (nI (n0 + 1))) (D ++ [67] ++ [40]) := ⟨b2.1, b2.2⟩
  have f31 : (chS s3 cn x (nI dp) (nI (n0 + 1))).1 31 = nI (h + 1) := b3
  have f32 : (chS s3 cn x (nI dp) (nI (n0 + 1))).1 32 = nI (cn + 1) := rfl
  have eS := chainM (n := n) (x := x) (y := nI dp) (z := nI (n0 + 1)) s32 (by omega)
  generalize chS s3 cn x (nI dp) (nI (n0 + 1)) = sS at hcS hcx agS lowS entS loS pgS f31 f32 eS
  obtain ⟨c1, c2, c3, c4, c5, c6⟩ := pushes_ok [(2, nI r3, nI cn, nI (dp + 1)), (0, nI 44, 0, 0), (2, nI r2, nI cn, nI (dp + 1)), (0, nI 44, 0, 0), (2, nI r1, x, nI dp)] (h + 1) sS (by simp; omega) f31
  have ep : f_X12_putTerm n (uF s 31 (nI h)) (nI r) x (nI dp) = some (pushes [(2, nI r3, nI cn, nI (dp + 1)), (0, nI 44, 0, 0), (2, nI r2, nI cn, nI (dp + 1)), (0, nI 44, 0, 0), (2, nI r1, x, nI dp)] (h + 1) sS) := by
    rw [b1]
    unfold f_X12_putTerm_122 f_X12_putTerm_281
    rw [if_neg (show ¬ nI 67 = (76 : Int32) by decide), if_pos (show nI 67 = (67 : Int32) by decide), nI_1, eS, Option.bind_some]
    simp only []
    rw [inB_nI hr (by omega), if_pos rfl, nI_cl (show r < 2 ^ 31 by omega), loS 18 (by decide), A3.lo (show 13 < 18 ∧ 18 < 19 by decide), k4, nI_1, pushM f31 (by omega), Option.bind_some, pushM psh_31 (by omega), Option.bind_some, if_pos rfl, psh_lo 17 (by decide), psh_lo 17 (by decide), loS 17 (by decide), A3.lo (show 13 < 17 ∧ 17 < 19 by decide), k3, pushM psh_31 (by omega), Option.bind_some, pushM psh_31 (by omega), Option.bind_some, if_pos rfl, psh_lo 16 (by decide), psh_lo 16 (by decide), psh_lo 16 (by decide), psh_lo 16 (by decide), loS 16 (by decide), A3.lo (show 13 < 16 ∧ 16 < 19 by decide), k2, pushM psh_31 (by omega), Option.bind_some]
    rfl
  rw [popT hP hD h31 (by omega) he, ep, Option.bind_some]
  generalize hs4 : pushes [(2, nI r3, nI cn, nI (dp + 1)), (0, nI 44, 0, 0), (2, nI r2, nI cn, nI (dp + 1)), (0, nI 44, 0, 0), (2, nI r1, x, nI dp)] (h + 1) sS = s4 at c1 c2 c3 c4 c5 c6 ⊢
  have hl : (D ++ [67] ++ [40]).length = D.length + 2 := by simp
  have hcs : CHn s4 (cn + 1) (updN NU n0 dp) (n0 + 1) (nI cn) := hcS.mv (Nat.le_refl _) (fun j c y z w => by rw [c6 j y]) (fun _ _ => rfl)
  have hcx4 : CHn s4 (cn + 1) NU n0 x := hcx.mv (Nat.le_refl _) (fun j c y z w => by rw [c6 j y]) (fun _ _ => rfl)
  have hN' : ∀ k, k < n0 + 1 → updN NU n0 dp k ≤ dp + 1 := fun k hk => by
    by_cases e : k = n0
    · rw [e, updN_at]; omega
    · rw [updN_ne _ _ e]; have := hN k (by omega); omega
  have t := tailR (n := n) (sM := sM) (s := s) (s3 := s3) (s4 := s4) (D := D) (D1 := D ++ [67] ++ [40]) (h := h) (fu := fu) (cn := cn) (cn1 := cn + 1) [((2, nI r1, x, nI dp), E1), ((0, nI 44, 0, 0), [44]), ((2, nI r2, nI cn, nI (dp + 1)), E2), ((0, nI 44, 0, 0), [44]), ((2, nI r3, nI cn, nI (dp + 1)), E3), ((0, nI 41, 0, 0), [41])] ((A3.tr agS).tr c1.toT) (c2 _ pgS) hl hh (by simp) (by rw [c3]; rfl) (by omega) (by omega) (fun i q hq => by
    have hi : i < 6 := by
      rcases Nat.lt_or_ge i 6 with z | z
      · exact z
      · rw [List.getElem?_eq_none (by simpa using z)] at hq; cases hq
    rcases (show i = 0 ∨ i = 1 ∨ i = 2 ∨ i = 3 ∨ i = 4 ∨ i = 5 by omega) with e | e | e | e | e | e <;> subst e
    · have hq := Option.some.inj hq
      rw [← hq]; exact c5 4 _ rfl
    · have hq := Option.some.inj hq
      rw [← hq]; exact c5 3 _ rfl
    · have hq := Option.some.inj hq
      rw [← hq]; exact c5 2 _ rfl
    · have hq := Option.some.inj hq
      rw [← hq]; exact c5 1 _ rfl
    · have hq := Option.some.inj hq
      rw [← hq]; exact c5 0 _ rfl
    · have hq := Option.some.inj hq
      rw [← hq]
      show ent s4 h = _
      rw [c4 h (by omega), entS, b5, if_pos rfl]) (fun i hi => by rw [c4 i (by omega), entS, b5, if_neg (by omega)]) (by rw [c1.1 32 (by decide) (by decide)]; exact f32) (by omega) (by omega) (fun j c y z w => by rw [c6 j y, lowS j c y z w, b6 j y])
    (List.forall_mem_cons.mpr ⟨IT.term l1 a hcx4 (by omega) hN, List.forall_mem_cons.mpr ⟨IT.byte (by omega), List.forall_mem_cons.mpr ⟨IT.term l2 a2 hcs (by omega) hN', List.forall_mem_cons.mpr ⟨IT.byte (by omega), List.forall_mem_cons.mpr ⟨IT.term l3 a3 hcs (by omega) hN', List.forall_mem_cons.mpr ⟨IT.byte (by omega), fun q hq => nomatch hq⟩⟩⟩⟩⟩⟩)
  have ec : D ++ ([67] ++ [40] ++ E1 ++ [44] ++ E2 ++ [44] ++ E3 ++ [41]) = (D ++ [67] ++ [40]) ++ catE [((2, nI r1, x, nI dp), E1), ((0, nI 44, 0, 0), [44]), ((2, nI r2, nI cn, nI (dp + 1)), E2), ((0, nI 44, 0, 0), [44]), ((2, nI r3, nI cn, nI (dp + 1)), E3), ((0, nI 41, 0, 0), [41])] := by unfold catE; simp
  rw [ec]; exact t
