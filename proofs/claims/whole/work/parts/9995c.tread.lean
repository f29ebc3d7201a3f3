/-! ===== reading terms, part after part ===== -/
theorem RS.mvT {X : TX} {D : HD} {p o : Nat} {sC sM sC' sM' : StT} (h : RS X D p o sC sM) (aF : ∀ j, j ≠ 8 → sC'.1 j = sC.1 j) (aA : ∀ j, j < 7 → sC'.2.1 j = sC.2.1 j) (aL : sC'.2.2 = sC.2.2) (bF : ∀ j, j < 14 → sM'.1 j = sM.1 j) (bA : ∀ j, j < 10 → sM'.2.1 j = sM.2.1 j) : RS X D p o sC' sM' := by
  obtain ⟨⟨h1, ⟨g1, g2, g3, g4⟩, h3, h4, h5, h6, h7⟩, hp, hT⟩ := h
  refine ⟨⟨h1.mv (aF 6 (by decide)) (aF 7 (by decide)) (fun j _ b => aA j b) (by rw [aL]) (bF 0 (by decide)) (bF 2 (by decide)) (fun j b => bA j (by omega)), ⟨?_, ?_, by rw [aF 1 (by decide)]; exact g3, by rw [bF 9 (by decide)]; exact g4⟩, ⟨h3.1, by rw [aF 11 (by decide)]; exact h3.2⟩, by rw [aF 9 (by decide)]; exact h4, by rw [bF 13 (by decide)]; exact h5, by rw [aF 10 (by decide)]; exact h6, by rw [bF 10 (by decide)]; exact h7⟩, hp, ?_⟩
  · unfold TxC at g1 ⊢; rw [aF 0 (by decide), aA 1 (by decide)]; exact g1
  · unfold TxM at g2 ⊢; rw [bF 3 (by decide), bA 6 (by decide)]; exact g2
  · rcases hT with ⟨a, b, c, d⟩ | ⟨a, b, c, d, e, f, g, i, j, k, l⟩
    · exact Or.inl ⟨by rw [aF 2 (by decide)]; exact a, by rw [bF 8 (by decide)]; exact b, by rw [aF 5 (by decide)]; exact c, by rw [bF 4 (by decide)]; exact d⟩
    · exact Or.inr ⟨by rw [aF 2 (by decide)]; exact a, by rw [bF 8 (by decide)]; exact b, c, d, by rw [aF 3 (by decide)]; exact e, by rw [aF 4 (by decide)]; exact f, by rw [aF 5 (by decide)]; exact g, by rw [bF 5 (by decide)]; exact i, by rw [bF 6 (by decide)]; exact j, by rw [bF 7 (by decide)]; exact k, fun x => by rw [aL]; exact l x⟩
/-- the class's new term touches nothing else -/
theorem aT_F {s : StT} {N : Nat} {k a b c d : Int32} : (∀ j, j ≠ 8 → (aT s N k a b c d).1 j = s.1 j) ∧ (∀ j, j < 7 → (aT s N k a b c d).2.1 j = s.2.1 j) ∧ (aT s N k a b c d).2.2 = s.2.2 ∧ (aT s N k a b c d).1 8 = nI (N + 1) := by
  refine ⟨fun j hj => ?_, fun j hj => ?_, rfl, rfl⟩
  · unfold aT; simp only [uF_1, uA_1]; rw [if_neg hj]
  · unfold aT; simp only [uF_2, uA_21]
    rw [if_neg (by omega), if_neg (by omega), if_neg (by omega), if_neg (by omega), if_neg (by omega)]
theorem sT_A {s : StT} {o u st t : Nat} (hst : st < 3) : ∀ j, j < 40 → (sT s o u st t).2.1 j = s.2.1 j := by
  intro j hj
  unfold sT; simp only [uA_21]; rw [if_neg (by omega), if_neg (by omega)]
theorem sT_at {s : StT} {o u st t : Nat} (hu : u < 1600) (hst : st < 3) : (sT s o u st t).2.1 (42 + st) u = nI t := by
  unfold sT; simp only [uA_21]
  rw [if_neg (by omega), if_true, upd_j, nI_cl (by omega), if_pos rfl]
theorem sT_o {s : StT} {o u st t j r : Nat} (hu : u < 1600) (ho : o < 60) (h : j ≠ 42 + st ∨ r ≠ u) (h2 : j ≠ 46 ∨ r ≠ o) : (sT s o u st t).2.1 j r = s.2.1 j r := by
  unfold sT; simp only [uA_21]
  by_cases c1 : j = 46
  · rw [if_pos c1, upd_j, nI_cl (by omega), if_neg (by omega)]
    by_cases c2 : j = 42 + st
    · rw [if_pos c2, upd_j, nI_cl (by omega), if_neg (by omega)]
    · rw [if_neg c2]
  · rw [if_neg c1]
    by_cases c2 : j = 42 + st
    · rw [if_pos c2, upd_j, nI_cl (by omega), if_neg (by omega)]
    · rw [if_neg c2]
theorem sT_46 {s : StT} {o u st t : Nat} (ho : o < 60) : (sT s o u st t).2.1 46 o = nI (st + 1) := by
  unfold sT; simp only [uA_21, if_true, upd_j, nI_cl (show o < 2 ^ 31 by omega)]
theorem sT_fr {s : StT} {d v o u st t : Nat} (hst : st < 3) (hd : d ≤ o) (hv : v ≤ u) (ho : o < 60) (hu : u < 1600) : FTM d v s (sT s o u st t) := (FTM.ar s _ _ _ (by omega) rfl (by omega)).tr (FTM.ar _ 46 _ _ (by omega) rfl (by omega))
theorem RS.sT {X : TX} {D : HD} {p o' : Nat} {sC sM : StT} (h : RS X D p o' sC sM) {o u st t : Nat} (hst : st < 3) : RS X D p o' sC (sT sM o u st t) := h.mvT (fun _ _ => rfl) (fun _ _ => rfl) rfl (fun _ _ => rfl) (fun j hj => sT_A hst j (by omega))
/-- from one part to the next -/
theorem nextT {n : Nat} (hn : 100000 ≤ n) {X : TX} {D : HD} {p o u st t k m : Nat} {c mm : StT} (h : RS X D p (o + 1) c mm) (hk : k ∈ LTR) (hst : st + 1 < pk k) (hu : u < 1600) (e45 : mm.2.1 45 o = nI u) (e46 : mm.2.1 46 o = nI st) (e47 : mm.2.1 47 o = nI m) (e40 : mm.2.1 40 u = nI k) :
    ∃ q, f_X3_expect n c 44 = some q ∧ ((∃ p' mm', RS X D p' (o + 1) q mm' ∧ p < p' ∧ q.1 8 = c.1 8 ∧ mm'.1 34 = mm.1 34 ∧ mm'.2 = (sT mm o u st t).2 ∧ FRC c q ∧ (∀ e, FRM e (sT mm o u st t) mm') ∧ ∀ fo res, DnT n fo mm' (o + 1) (m + csb k) res → UpT n fo mm (o + 1) t res)
      ∨ ∃ mm', RX D q mm' ∧ FRC c q ∧ FTM 0 0 mm mm' ∧ ∀ fo, UpT n (fo + 1) mm (o + 1) t (-1, mm')) := by
  have hpb := pk_bd (k := k)
  have ho : o < 60 := by have := h.1.2.2.1.1; omega
  have h0 := h.1.2.2.2.2.2.2
  rcases want2 hn (h.sT (o := o) (u := u) (st := st) (t := t) (by omega)) (x := 44) (y := 44) (by decide) (by decide) (fun pr hpr => tkp_s pr hpr 44 (by decide)) with ⟨p', q, m', ej, ek, hR, _, hp', fC, fM, _, g2⟩ | ⟨q, m', ej, ek, hX, fC, fM⟩
  · refine ⟨q, ej, Or.inl ⟨p', m', hR, hp' (by decide), fC.1 8 (by decide), (fM 0).1 34 (by decide), g2, fC, fM, fun fo res hD => up_more hk h0 ho hu hst e45 e46 e40 ek ?_⟩⟩
    rw [g2, sT_o hu ho (Or.inl (by omega)) (Or.inl (by decide)), e47, nI_add]
    exact hD
  · refine ⟨q, ej, Or.inr ⟨m', hX, fC, (sT_fr (by omega) (Nat.zero_le _) (Nat.zero_le _) ho hu).tr ((fM 0).ft 0 0), fun fo => up_more hk h0 ho hu hst e45 e46 e40 ek ?_⟩⟩
    rw [f_X12_readTerm_4, if_neg hX.m0]
/-- after the last part -/
theorem endT {n : Nat} (hn : 100000 ≤ n) {X : TX} {D : HD} {p o u st t k N' : Nat} {c mm : StT} (h : RS X D p (o + 1) c mm) (hN : c.1 8 = nI N') (hN3 : N' < 3000) (hk : k ∈ LTR) (hst : st + 1 = pk k) (hu : u < 1600) (e45 : mm.2.1 45 o = nI u) (e46 : mm.2.1 46 o = nI st) (e40 : mm.2.1 40 u = nI k) (a b cc : Int32) :
    ∃ q r sC', f_X3_expect n c 41 = some q ∧ f_X7_add_T0 n (uF q 9 (q.1 9 - 1)) (nI k) a b cc (-1) = some (r, sC') ∧
      ((∃ p' mm', r = nI N' ∧ sC'.1 8 = nI (N' + 1) ∧ mm'.1 34 = mm.1 34 ∧ mm'.2 = (sT mm o u st t).2 ∧ (sC'.2.1 7 N' = nI k ∧ sC'.2.1 8 N' = a ∧ sC'.2.1 9 N' = b ∧ sC'.2.1 10 N' = cc) ∧ RS X D p' o sC' mm' ∧ p < p' ∧ FTC N' c sC' ∧ (∀ e, FRM e (sT mm o u st t) mm') ∧ ∀ fo res, UpT n fo mm' o u res → UpT n fo mm (o + 1) t res)
      ∨ ∃ mm', RX D sC' mm' ∧ FTC 0 c sC' ∧ FTM 0 0 mm mm' ∧ ∀ fo, UpT n fo mm (o + 1) t (-1, mm')) := by
  have hpb := pk_bd (k := k)
  have ho : o < 60 := by have := h.1.2.2.1.1; omega
  have h0 := h.1.2.2.2.2.2.2
  rcases want2 hn (h.sT (o := o) (u := u) (st := st) (t := t) (by omega)) (x := 41) (y := 41) (by decide) (by decide) (fun pr hpr => tkp_s pr hpr 41 (by decide)) with ⟨p', q, m', ej, ek, hR, _, hp', fC, fM, _, g2⟩ | ⟨q, m', ej, ek, hX, fC, fM⟩
  · have e8 : (uF q 9 (q.1 9 - 1)).1 8 = nI N' := by show q.1 8 = _; rw [fC.1 8 (by decide)]; exact hN
    refine ⟨q, _, _, ej, addT0 e8 hN3 _ _ _ _ _, Or.inl ⟨p', uF m' 13 (m'.1 13 - 1), rfl, rfl, (fM 0).1 34 (by decide), g2, aT_rows hN3 _ _ _ _ _, ?_, hp' (by decide), ?_, fun e => (fM e).tr (FRM.op _ _ _), fun fo res hU => up_last hk h0 ho hu hst e45 e46 e40 ek hU⟩⟩
    · exact hR.close.mvT aT_F.1 aT_F.2.1 aT_F.2.2.1 (fun _ _ => rfl) (fun _ _ => rfl)
    · exact ((fC.ft N').tr ((FRC.op _ _).ft N')).tr (aT_fr hN3 _ _ _ _ _)
  · obtain ⟨r, s', ea, f1, f2, f3, f4⟩ := addT0_any n (uF q 9 (q.1 9 - 1)) (nI k) a b cc (-1)
    refine ⟨q, r, s', ej, ea, Or.inr ⟨uF m' 13 (m'.1 13 - 1), ?_, ((fC.ft 0).tr ((FRC.op _ _).ft 0)).tr f1, (sT_fr (by omega) (Nat.zero_le _) (Nat.zero_le _) ho hu).tr (((fM 0).tr (FRM.op _ _ _)).ft 0 0), fun fo => up_last hk h0 ho hu hst e45 e46 e40 ek (upT_fault hX.m0)⟩⟩
    exact hX.mv (f2 10 (by decide)) (f2 11 (by decide)) (f2 6 (by decide)) (f2 7 (by decide)) (fun j _ b => f3 j (by omega)) (by rw [f4]; rfl) rfl rfl rfl rfl (fun _ _ => rfl)
def OkT (n : Nat) (X : TX) (D : HD) (p o m fo N u : Nat) (sC sM : StT) (Run : Int32 × StT → Prop) (r : Int32) (sC' : StT) : Prop :=
  (∃ i D' p' sM' fo' e, r = nI i ∧ N ≤ i ∧ sC'.1 8 = nI (i + 1) ∧ sM'.1 34 = nI e ∧ TR sC' sM' D'.1.1 (41 - o) i u m e ∧ RS X D' p' o sC' sM' ∧ Gd D D' ∧ p < p' ∧ i + 1 + u = N + e ∧ 2 * e ≤ p' + 1 ∧ FTC N sC sC' ∧ FTM o u sM sM' ∧ fo + p ≤ fo' + p' ∧ ∀ res, UpT n fo' sM' o u res → Run res)
  ∨ ∃ D' sM', RX D' sC' sM' ∧ Gd D D' ∧ FTC 0 sC sC' ∧ FTM 0 0 sM sM' ∧ Run (-1, sM')
def LvT (n k : Nat) (cl : StT → Int32 → Option (Int32 × StT)) : Prop := ∀ (X : TX) (D : HD) (p o m fo N u : Nat) (sC sM : StT), RS X D p o sC sM → sC.1 8 = nI N → sM.1 34 = nI u → N ≤ u → 2 * u ≤ p → m ≤ 20 + o → 41 - o ≤ k → X.2.1 < fo + p → ∃ r sC', cl sC (nI m) = some (r, sC') ∧ OkT n X D p o m fo N u sC sM (DnT n fo sM o m) r sC'
theorem OkT.tr {n : Nat} {X : TX} {D D2 : HD} {p p2 o m fo fo2 N u : Nat} {sC sM c2 m2 : StT} {Run Run2 : Int32 × StT → Prop} {r : Int32} {sC' : StT} (h : OkT n X D2 p2 o m fo2 N u c2 m2 Run2 r sC') (hG : Gd D D2) (fC : FTC N sC c2) (fM : FTM o u sM m2) (hp : p ≤ p2) (hfo : fo + p ≤ fo2 + p2) (hR : ∀ res, Run2 res → Run res) : OkT n X D p o m fo N u sC sM Run r sC' := by
  rcases h with ⟨i, D', p', sM', fo', e, h1, h2, h3, h4, h5, h6, h7, h8, h9, h10, h11, h12, h13, h14⟩ | ⟨D', sM', h1, h2, h3, h4, h5⟩
  · exact Or.inl ⟨i, D', p', sM', fo', e, h1, h2, h3, h4, h5, h6, hG.tr h7, by omega, h9, h10, fC.tr h11, fM.tr h12, by omega, fun res hU => hR res (h14 res hU)⟩
  · exact Or.inr ⟨D', sM', h1, hG.tr h2, (fC.lo (Nat.zero_le _)).tr h3, (fM.lo (Nat.zero_le _) (Nat.zero_le _)).tr h4, hR _ h5⟩
