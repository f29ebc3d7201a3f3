/-! ===== the reference's stack of levels ===== -/
theorem bind_eta {x : Option (Int32 × StT)} : (x.bind fun q => some (q.1, q.2)) = x := by cases x <;> rfl
theorem nI_p1 {i : Nat} : nI (i + 1) + (-1 : Int32) = nI i := by
  rw [nI_succ, Int32.add_assoc, show (1 : Int32) + -1 = 0 by decide, Int32.add_zero]
def Down (n fo lv : Nat) (s : StT) (d : Nat) (res : Int32 × StT) : Prop := ∀ j, 5 ≤ j + lv → f_X12_readFormula_45 n (f_X12_readFormula_34 n fo) j s (nI d) = some res
def Up (n fo : Nat) (s : StT) (d : Nat) (res : Int32 × StT) : Prop := ∀ j, d < j → f_X12_readFormula_92 n (f_X12_readFormula_34 n fo) j s (nI d) (-1) = some res
/-- row e begins with level lv -/
def row0 (s : StT) (e lv : Nat) : StT := uA (uA s 10 (nI e) (nI lv)) 11 (nI e) 0
theorem row0_fr {s : StT} {d e lv : Nat} (h : d ≤ e) (he : e < 400) : FRM d s (row0 s e lv) := (FRM.ar s 10 _ _ (by decide) rfl h (by omega)).tr (FRM.ar _ 11 _ _ (by decide) rfl h (by omega))
theorem row0_10 {s : StT} {e lv : Nat} (he : e < 400) : (row0 s e lv).2.1 10 e = nI lv := by
  unfold row0; simp only [uA_21, if_true, if_neg (show ¬ (10 : Nat) = 11 by decide), upd_j, nI_cl (show e < 2 ^ 31 by omega)]
theorem row0_11 {s : StT} {e lv : Nat} (he : e < 400) : (row0 s e lv).2.1 11 e = 0 := by
  unfold row0; simp only [uA_21, if_true, upd_j, nI_cl (show e < 2 ^ 31 by omega)]
theorem up_end {n fo : Nat} {s : StT} (h0 : s.1 10 = 0) : Up n fo s 0 (s.1 17, s) := by
  intro j hj
  obtain ⟨j, rfl⟩ : ∃ q, j = q + 1 := ⟨j - 1, by omega⟩
  rw [f_X12_readFormula_92, if_neg (by decide), if_pos (by decide), f_X12_readFormula_119, if_neg (by decide), if_pos h0]
theorem k34_go {n fo : Nat} {s : StT} {e lv : Nat} {res : Int32 × StT} (hn : 100000 ≤ n) (h0 : s.1 10 = 0) (he : e < 400) (h : Down n fo lv s e res) : f_X12_readFormula_34 n (fo + 1) s (nI e) = some res := by
  rw [f_X12_readFormula_34, if_neg (nI_nneg (by omega)), if_pos h0]
  exact h n (by omega)
theorem down_push {n fo lv : Nat} {s : StT} {d : Nat} {res : Int32 × StT} (hl : lv < 4) (hd : d + 1 < 400) (h10 : s.2.1 10 d = nI lv) (h : Down n fo (lv + 1) (row0 s (d + 1) (lv + 1)) (d + 1) res) : Down n fo lv s d res := by
  intro j hj
  obtain ⟨j, rfl⟩ : ∃ q, j = q + 1 := ⟨j - 1, by omega⟩
  rw [f_X12_readFormula_45, inB_nI (show d < 400 by omega) (by omega), if_pos rfl, nI_cl (by omega), h10, if_neg (show ¬ (4 : Int32) ≤ nI lv from fun e => absurd ((nI_leI (a := 4) (by omega) (by omega)).mp e) (by omega)), if_pos rfl, nI_1, inB_nI (show d + 1 < 400 by omega) (by omega), if_pos rfl, if_pos rfl, nI_1]
  exact h j (by omega)
/-- what follows a step that told `nx` at row d -/
theorem k92_next {n fo lv : Nat} (hn : 100000 ≤ n) {s : StT} {d : Nat} {res : Int32 × StT} (hl : lv ≤ 4) (hd : d + 1 < 400) (h0 : s.1 10 = 0) (h : Down n fo lv (row0 s (d + 1) lv) (d + 1) res) : ∀ j, 0 < j → f_X12_readFormula_92 n (f_X12_readFormula_34 n (fo + 1)) j s (nI d) (nI lv) = some res := by
  intro j hj
  obtain ⟨j, rfl⟩ : ∃ q, j = q + 1 := ⟨j - 1, by omega⟩
  rw [f_X12_readFormula_92, if_pos (nI_nn (by omega)), f_X12_readFormula_119, if_pos (nI_nn (by omega)), nI_1, inB_nI (show d + 1 < 400 by omega) (by omega), if_pos rfl, if_pos rfl]
  exact k34_go hn (s := row0 s (d + 1) lv) h0 hd h
theorem k92_fault {n fo : Nat} {s : StT} {d : Nat} (h0 : ¬ s.1 10 = 0) : ∀ j, 0 < j → f_X12_readFormula_92 n (f_X12_readFormula_34 n fo) j s (nI d) (-1) = some (-1, s) := by
  intro j hj
  obtain ⟨j, rfl⟩ : ∃ q, j = q + 1 := ⟨j - 1, by omega⟩
  have e : f_X12_readFormula_119 n (f_X12_readFormula_34 n fo) s (nI d) (-1) = some (-1, s) := by
    rw [f_X12_readFormula_119, if_neg (by decide), if_neg h0]
  rw [f_X12_readFormula_92, if_neg (by decide), if_neg h0, e, ite_self]
theorem up_step {n fo : Nat} {s : StT} {d : Nat} {res : Int32 × StT} (hd : d + 1 < 400) (h0 : s.1 10 = 0) (h : ∀ j, d < j → ((f_X12_goOn n s (nI d)).bind fun q => f_X12_readFormula_92 n (f_X12_readFormula_34 n fo) j q.2 (nI d) q.1) = some res) : Up n fo s (d + 1) res := by
  intro j hj
  obtain ⟨j, rfl⟩ : ∃ q, j = q + 1 := ⟨j - 1, by omega⟩
  rw [f_X12_readFormula_92, if_neg (by decide), if_neg (show ¬ nI (d + 1) ≤ 0 from fun e => absurd ((nI_leI (b := 0) (by omega) (by omega)).mp e) (by omega)), if_pos h0, nI_p1]
  exact h j (by omega)
theorem down_leaf {n fo : Nat} {s : StT} {d : Nat} {res : Int32 × StT} (hd : d < 400) (hn : 100000 ≤ n) (h10 : s.2.1 10 d = nI 4) (h : ∀ j, d < j → ((f_X12_beginNot n s (nI d)).bind fun q => f_X12_readFormula_92 n (f_X12_readFormula_34 n fo) j q.2 (nI d) q.1) = some res) : Down n fo 4 s d res := by
  intro j hj
  obtain ⟨j, rfl⟩ : ∃ q, j = q + 1 := ⟨j - 1, by omega⟩
  rw [f_X12_readFormula_45, inB_nI hd (by omega), if_pos rfl, nI_cl (by omega), h10, if_pos (by decide)]
  exact h n (by omega)
/-! what a level does when it goes on -/
theorem goOn4 {n : Nat} {s : StT} {d : Nat} (hd : d < 400) (h10 : s.2.1 10 d = nI 4) : f_X12_goOn n s (nI d) = if s.2.1 11 d = 1 then ((f_X12_madeAt n (uF s 13 (s.1 13 - 1)) 5 (s.1 17) 0 (s.2.1 13 d)).bind fun q => some (-1, uF q.2 17 q.1)) else ((f_X12_want n s 41).bind fun q => some (-1, uF q.2 13 (q.2.1 13 - 1))) := by
  unfold f_X12_goOn
  simp only [inB_nI hd (by omega), nI_cl (show d < 2 ^ 31 by omega), h10, if_true]
  rw [if_neg (by decide), if_neg (by decide), if_neg (by decide), if_pos (by decide)]
  rfl
theorem goOn3 {n : Nat} {s : StT} {d : Nat} (hd : d < 400) (h10 : s.2.1 10 d = nI 3) : f_X12_goOn n s (nI d) = if s.2.1 11 d = 1 then ((f_X12_madeAt n s 3 (s.2.1 12 d) (s.1 17) (s.2.1 13 d)).bind fun q => f_X12_series n q.2 (nI d) q.1 38) else f_X12_series n s (nI d) (s.1 17) 38 := by
  unfold f_X12_goOn
  simp only [inB_nI hd (by omega), nI_cl (show d < 2 ^ 31 by omega), h10, if_true, bind_eta]
  rw [if_neg (by decide), if_neg (by decide), if_pos (by decide)]
theorem goOn2 {n : Nat} {s : StT} {d : Nat} (hd : d < 400) (h10 : s.2.1 10 d = nI 2) : f_X12_goOn n s (nI d) = if s.2.1 11 d = 1 then ((f_X12_madeAt n s 4 (s.2.1 12 d) (s.1 17) (s.2.1 13 d)).bind fun q => f_X12_series n q.2 (nI d) q.1 124) else f_X12_series n s (nI d) (s.1 17) 124 := by
  unfold f_X12_goOn
  simp only [inB_nI hd (by omega), nI_cl (show d < 2 ^ 31 by omega), h10, if_true, bind_eta]
  rw [if_neg (by decide), if_pos (by decide)]
theorem goOn1 {n : Nat} {s : StT} {d : Nat} (hd : d < 400) (h10 : s.2.1 10 d = nI 1) : f_X12_goOn n s (nI d) = if s.2.1 11 d = 1 then ((f_X12_madeAt n (uF s 13 (s.1 13 - 1)) 5 (s.2.1 12 d) (s.1 17) (s.2.1 13 d)).bind fun q => some (-1, uF q.2 17 q.1)) else f_X12_arrow n s (nI d) (s.1 17) 260 := by
  unfold f_X12_goOn
  simp only [inB_nI hd (by omega), nI_cl (show d < 2 ^ 31 by omega), h10, if_true, bind_eta]
  rw [if_pos (by decide)]
  rfl
theorem goOn0 {n : Nat} {s : StT} {d : Nat} (hd : d < 400) (h10 : s.2.1 10 d = nI 0) : f_X12_goOn n s (nI d) = if s.2.1 11 d = 1 then ((f_X12_madeAt n (uF s 13 (s.1 13 - 1)) 5 (s.2.1 12 d) (s.1 17) (s.2.1 13 d)).bind fun q => (if q.2.1 10 = 0 then ((f_X12_madeAt n q.2 5 (s.1 17) (q.2.2.1 12 d) (q.2.2.1 13 d)).bind fun r => f_X12_goOn_297 n r.2 (nI d) q.1 r.1) else f_X12_goOn_297 n q.2 (nI d) q.1 (-1))) else f_X12_arrow n s (nI d) (s.1 17) 261 := by
  unfold f_X12_goOn
  simp only [inB_nI hd (by omega), nI_cl (show d < 2 ^ 31 by omega), h10, if_true, bind_eta]
  rw [if_neg (by decide), if_neg (by decide), if_neg (by decide), if_neg (by decide)]
  rfl
theorem RS.rows {X : TX} {D : HD} {p o : Nat} {sC sM sM' : StT} (h : RS X D p o sC sM) (hF : ∀ j, j ≠ 17 → sM'.1 j = sM.1 j) (hA : ∀ j, (j < 10 ∨ 13 < j) → sM'.2.1 j = sM.2.1 j) : RS X D p o sC sM' := by
  refine ⟨h.1.mv (fun _ _ _ _ _ => rfl) rfl rfl (fun j _ _ _ _ _ a => hF j a) hA, h.2.1, ?_⟩
  rcases h.2.2 with ⟨a, b, c, d⟩ | ⟨a, b, c, d, e, f, g, i, j, k, l⟩
  · exact Or.inl ⟨a, by rw [hF 8 (by decide)]; exact b, c, by rw [hF 4 (by decide)]; exact d⟩
  · exact Or.inr ⟨a, by rw [hF 8 (by decide)]; exact b, c, d, e, f, g, by rw [hF 5 (by decide)]; exact i, by rw [hF 6 (by decide)]; exact j, by rw [hF 7 (by decide)]; exact k, l⟩
theorem RS.rw0 {X : TX} {D : HD} {p o : Nat} {sC sM : StT} (h : RS X D p o sC sM) (e lv : Nat) : RS X D p o sC (row0 sM e lv) := h.rows (fun _ _ => rfl) (fun j hj => by
  unfold row0; simp only [uA_21]; rw [if_neg (by omega), if_neg (by omega)])
/-- how a reading ends: on both sides well, or with the same fault -/
def OkF (n : Nat) (X : TX) (D : HD) (pl p o d fo : Nat) (sC sM : StT) (Run : Int32 × StT → Prop) (r : Int32) (sC' : StT) : Prop :=
  (∃ f D' p' sM' fo', r = nI f ∧ f < D'.1.1 ∧ RS X D' p' o sC' sM' ∧ sM'.1 17 = nI f ∧ Gd D D' ∧ pl ≤ p' ∧ FRC sC sC' ∧ FRM d sM sM' ∧ fo + p ≤ fo' + p' ∧ ∀ res, Up n fo' sM' d res → Run res)
  ∨ ∃ D' sM', RX D' sC' sM' ∧ Gd D D' ∧ FRC sC sC' ∧ FRM 0 sM sM' ∧ Run (-1, sM')
/-- both sides read what stands at level lv -/
def LvF (n : Nat) (lv : Nat) (cl : StT → Option (Int32 × StT)) (dr : Nat) : Prop := ∀ (X : TX) (D : HD) (p o d fo : Nat) (sC sM : StT), RS X D p o sC sM → sM.2.1 10 d = nI lv → sM.2.1 11 d = 0 → 5 * (40 - o) + (5 - lv) ≤ dr → d + 5 * (40 - o) + (5 - lv) < 400 → X.2.1 < fo + p → ∃ r sC', cl sC = some (r, sC') ∧ OkF n X D (p + 1) p o d fo sC sM (Down n fo lv sM d) r sC'
