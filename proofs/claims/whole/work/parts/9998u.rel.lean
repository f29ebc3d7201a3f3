/-! ===== the relation of states, kept by every call ===== -/
theorem RelT.mv {sC sM sC' sM' : StT} {tn : Nat} {tx : Nat → Int32} (h : RelT sC sM tn tx) (a : sC'.1 0 = sC.1 0) (b : sM'.1 3 = sM.1 3) (c : sC'.2.1 1 = sC.2.1 1) (d : sM'.2.1 6 = sM.2.1 6) : RelT sC' sM' tn tx := by
  unfold RelT at h ⊢; rw [a, b, c, d]; exact h
theorem RelG.mv {sC sM sC' sM' : StT} {gn F F' : Nat} {gv : Nat → Nat} (h : RelG sC sM gn gv F) (hF : F ≤ F') (a : sC'.1 28 = sC.1 28) (b : sM'.1 16 = sM.1 16) (c : sC'.2.1 0 = sC.2.1 0) (d : sM'.2.1 9 = sM.2.1 9) : RelG sC' sM' gn gv F' := by
  unfold RelG at h ⊢; rw [a, b, c, d]
  exact ⟨h.1, h.2.1, h.2.2.1, fun i hi => ⟨(h.2.2.2 i hi).1, (h.2.2.2 i hi).2.1, Nat.lt_of_lt_of_le (h.2.2.2 i hi).2.2 hF⟩⟩
theorem RelW.mv {sC sM sC' sM' : StT} {wn : Nat} (h : RelW sC sM wn) (a : sC'.1 13 = sC.1 13) (b : sM'.1 14 = sM.1 14) (c : sC'.2.1 12 = sC.2.1 12) (d : sM'.2.1 7 = sM.2.1 7) : RelW sC' sM' wn := by
  unfold RelW at h ⊢; rw [a, b, c, d]; exact h
theorem RelD.mv {sC sM sC' sM' : StT} {dn : Nat} {dp : Nat → Nat} {df : Nat → Int32} (h : RelD sC sM dn dp df) (a : sC'.1 27 = sC.1 27) (b : sM'.1 36 = sM.1 36) (c : sC'.2.1 42 = sC.2.1 42) (d : sC'.2.1 43 = sC.2.1 43) (e : sM'.2.1 53 = sM.2.1 53) (f : sM'.2.1 54 = sM.2.1 54) : RelD sC' sM' dn dp df := by
  unfold RelD at h ⊢; rw [a, b, c, d, e, f]; exact h
theorem CFF1.mv {s s' : StT} {fn : Nat} {kd fa fb : Nat → Nat} (h : CFF1 s fn kd fa fb) (a : s'.1 25 = s.1 25) (b : s'.2.1 35 = s.2.1 35) (c : s'.2.1 36 = s.2.1 36) (d : s'.2.1 37 = s.2.1 37) (e : s'.2.1 38 = s.2.1 38) (f : s'.2.1 39 = s.2.1 39) : CFF1 s' fn kd fa fb := by
  unfold CFF1 at h ⊢; rw [a, b, c, d, e, f]; exact h
def REL (sC sM : StT) : Prop := ∃ D : HD, HS D sC sM ∧ (∃ tn tx, RelT sC sM tn tx) ∧ (∃ gn gv, RelG sC sM gn gv D.1.1) ∧ (∃ wn, RelW sC sM wn) ∧ (∃ dn dp df, RelD sC sM dn dp df) ∧ sC.1 11 = sM.1 12 ∧ (∃ fn kd fa fb, CFF1 sC fn kd fa fb) ∧ SR D sC sM
def SIM1 (rc rm : Option (Int32 × StT)) : Prop := ∃ (r : Int32) (sC' sM' : StT), rc = some (r, sC') ∧ rm = some (r, sM') ∧ REL sC' sM'
theorem sim_feed {n : Nat} (hn : 500000000 ≤ n) {sC sM : StT} (hI : REL sC sM) (v : Int64) (c : Int32) : SIM1 (f_X11_feed n sC v c) (f_X12_feed n sM v c) := by
  obtain ⟨D, hH, ⟨tn, tx, rT⟩, ⟨gn, gv, rG⟩, ⟨wn, rW⟩, ⟨dn, dp, df, rD⟩, hpl, ⟨fn, kd, fa, fb, hF1⟩, hS⟩ := hI
  have hn1 : 100000 ≤ n := by omega
  obtain ⟨r, sC', sM', tn', tx', e1, e2, rT', fC, fM⟩ := op_feed hn1 rT v c
  exact ⟨r, sC', sM', e1, e2, ⟨D, hH.mv (fC.1 6 (by decide)) (fC.1 7 (by decide)) (fun j x y => (fC.2.1 j (by omega))) (by rw [fC.2.2]) (fM.1 0 (by decide)) (fM.1 2 (by decide)) (fun j x => (fM.2.1 j (by omega))), ⟨tn', tx', rT'⟩, ⟨gn, gv, rG.mv (Nat.le_refl _) (fC.1 28 (by decide)) (fM.1 16 (by decide)) (fC.2.1 0 (by decide)) (fM.2.1 9 (by decide))⟩, ⟨wn, rW.mv (fC.1 13 (by decide)) (fM.1 14 (by decide)) (fC.2.1 12 (by decide)) (fM.2.1 7 (by decide))⟩, ⟨dn, dp, df, rD.mv (fC.1 27 (by decide)) (fM.1 36 (by decide)) (fC.2.1 42 (by decide)) (fC.2.1 43 (by decide)) (fM.2.1 53 (by decide)) (fM.2.1 54 (by decide))⟩, ((fC.1 11 (by decide)).trans (hpl.trans (fM.1 12 (by decide)).symm)), ⟨fn, kd, fa, fb, hF1.mv (fC.1 25 (by decide)) (fC.2.1 35 (by decide)) (fC.2.1 36 (by decide)) (fC.2.1 37 (by decide)) (fC.2.1 38 (by decide)) (fC.2.1 39 (by decide))⟩, hS.mv (Nat.le_refl _) (fun j x y z => (fC.1 j (by omega))) (fun j x => (fC.2.1 j (by omega))) (fun i _ => by rw [(fC.2.1 17 (by decide))]) (fun j x => (fM.1 j (by omega))) (fun j x => (fM.2.1 j (by omega)))⟩⟩
theorem sim_read {n : Nat} (hn : 500000000 ≤ n) {sC sM : StT} (hI : REL sC sM)  : SIM1 (f_X11_read n sC ) (f_X12_read n sM ) := by
  obtain ⟨D, hH, ⟨tn, tx, rT⟩, ⟨gn, gv, rG⟩, ⟨wn, rW⟩, ⟨dn, dp, df, rD⟩, hpl, ⟨fn, kd, fa, fb, hF1⟩, hS⟩ := hI
  have hn1 : 100000 ≤ n := by omega
  obtain ⟨r, sC', sM', D', e1, e2, hH', gd, hpl', fC, fM⟩ := op_read hn1 hH rT.tx.1 rT.tx.2
  exact ⟨r, sC', sM', e1, e2, ⟨D', hH', ⟨tn, tx, rT.mv (fC.1 0 (by decide)) (fM.1 3 (by decide)) (fC.2.1 1 (by decide)) (fM.2.1 6 (by decide))⟩, ⟨gn, gv, rG.mv gd.1 (fC.1 28 (by decide)) (fM.1 16 (by decide)) (fC.2.1 0 (by decide)) (fM.2.1 9 (by decide))⟩, ⟨wn, rW.mv (fC.1 13 (by decide)) (fM.1 14 (by decide)) (fC.2.1 12 (by decide)) (fM.2.1 7 (by decide))⟩, ⟨dn, dp, df, rD.mv (fC.1 27 (by decide)) (fM.1 36 (by decide)) (fC.2.1 42 (by decide)) (fC.2.1 43 (by decide)) (fM.2.1 53 (by decide)) (fM.2.1 54 (by decide))⟩, hpl', ⟨fn, kd, fa, fb, hF1.mv (fC.1 25 (by decide)) (fC.2.1 35 (by decide)) (fC.2.1 36 (by decide)) (fC.2.1 37 (by decide)) (fC.2.1 38 (by decide)) (fC.2.1 39 (by decide))⟩, hS.mv gd.1 (fun j x y z => (fC.1 j (by omega))) (fun j x => (fC.2.1 j (by omega))) (fun i _ => by rw [(fC.2.1 17 (by decide))]) (fun j x => (fM.1 j (by omega))) (fun j x => (fM.2.1 j (by omega)))⟩⟩
theorem sim_place {n : Nat} (hn : 500000000 ≤ n) {sC sM : StT} (hI : REL sC sM)  : SIM1 (f_X11_place n sC ) (f_X12_place n sM ) := by
  obtain ⟨D, hH, ⟨tn, tx, rT⟩, ⟨gn, gv, rG⟩, ⟨wn, rW⟩, ⟨dn, dp, df, rD⟩, hpl, ⟨fn, kd, fa, fb, hF1⟩, hS⟩ := hI
  have hn1 : 100000 ≤ n := by omega
  exact ⟨sC.1 11, sC, sM, rfl, by unfold f_X12_place; rw [hpl], ⟨D, hH, ⟨tn, tx, rT⟩, ⟨gn, gv, rG⟩, ⟨wn, rW⟩, ⟨dn, dp, df, rD⟩, hpl, ⟨fn, kd, fa, fb, hF1⟩, hS⟩⟩
theorem sim_count {n : Nat} (hn : 500000000 ≤ n) {sC sM : StT} (hI : REL sC sM) (a : Int32) : SIM1 (f_X11_count n sC a) (f_X12_count n sM a) := by
  obtain ⟨D, hH, ⟨tn, tx, rT⟩, ⟨gn, gv, rG⟩, ⟨wn, rW⟩, ⟨dn, dp, df, rD⟩, hpl, ⟨fn, kd, fa, fb, hF1⟩, hS⟩ := hI
  have hn1 : 100000 ≤ n := by omega
  obtain ⟨r, e1, e2⟩ := op_count (n := n) (x := a) (hH.1.1.trans hH.2.1.1.symm) (hH.2.2.2.1.trans hH.2.2.2.2.1.1.symm) (rG.2.1.trans rG.2.2.1.symm) (rD.2.2.1.trans rD.2.2.2.1.symm)
  exact ⟨r, sC, sM, e1, e2, ⟨D, hH, ⟨tn, tx, rT⟩, ⟨gn, gv, rG⟩, ⟨wn, rW⟩, ⟨dn, dp, df, rD⟩, hpl, ⟨fn, kd, fa, fb, hF1⟩, hS⟩⟩
theorem sim_formula {n : Nat} (hn : 500000000 ≤ n) {sC sM : StT} (hI : REL sC sM) (a b : Int32) : SIM1 (f_X11_formula n sC a b) (f_X12_formula n sM a b) := by
  obtain ⟨D, hH, ⟨tn, tx, rT⟩, ⟨gn, gv, rG⟩, ⟨wn, rW⟩, ⟨dn, dp, df, rD⟩, hpl, ⟨fn, kd, fa, fb, hF1⟩, hS⟩ := hI
  have hn1 : 100000 ≤ n := by omega
  obtain ⟨r, e1, e2⟩ := op_formula (n := n) hH.1 hH.2.1 hH.2.2.1 a b
  exact ⟨r, sC, sM, e1, e2, ⟨D, hH, ⟨tn, tx, rT⟩, ⟨gn, gv, rG⟩, ⟨wn, rW⟩, ⟨dn, dp, df, rD⟩, hpl, ⟨fn, kd, fa, fb, hF1⟩, hS⟩⟩
theorem sim_make {n : Nat} (hn : 500000000 ≤ n) {sC sM : StT} (hI : REL sC sM) (a b c : Int32) : SIM1 (f_X11_make n sC a b c) (f_X12_make n sM a b c) := by
  obtain ⟨D, hH, ⟨tn, tx, rT⟩, ⟨gn, gv, rG⟩, ⟨wn, rW⟩, ⟨dn, dp, df, rD⟩, hpl, ⟨fn, kd, fa, fb, hF1⟩, hS⟩ := hI
  have hn1 : 100000 ≤ n := by omega
  obtain ⟨r, sC', sM', t', e1, e2, c1, m1, w1, fC, fM, le, kp⟩ := op_make hn1 hH.1 hH.2.1 hH.2.2.1 a b c
  have hV := hH.2.2.2.2.1
  have hH' : HS (t', D.2) sC' sM' := ⟨c1, m1, w1, (fC.1 7 (by decide)).trans hH.2.2.2.1, ⟨(fM.1 2 (by decide)).trans hV.1, fun v hv => by
    have h := hV.2 v hv
    have k := kp _ h.2.1
    exact ⟨by rw [fM.2.1 5 (by decide) (by decide) (by decide)]; exact h.1, Nat.lt_of_lt_of_le h.2.1 le, k.1.trans h.2.2.1, k.2.1.trans h.2.2.2⟩⟩, fun v hv => by rw [fC.2.2]; exact hH.2.2.2.2.2.1 v hv, fun v hv => by rw [fM.2.1 4 (by decide) (by decide) (by decide), fM.2.1 3 (by decide) (by decide) (by decide)]; exact hH.2.2.2.2.2.2.1 v hv, hH.2.2.2.2.2.2.2⟩
  exact ⟨r, sC', sM', e1, e2, ⟨(t', D.2), hH', ⟨tn, tx, rT.mv (fC.1 0 (by decide)) (fM.1 3 (by decide)) (fC.2.1 1 (by decide) (by decide) (by decide) (by decide) (by decide)) (fM.2.1 6 (by decide) (by decide) (by decide))⟩, ⟨gn, gv, rG.mv le (fC.1 28 (by decide)) (fM.1 16 (by decide)) (fC.2.1 0 (by decide) (by decide) (by decide) (by decide) (by decide)) (fM.2.1 9 (by decide) (by decide) (by decide))⟩, ⟨wn, rW.mv (fC.1 13 (by decide)) (fM.1 14 (by decide)) (fC.2.1 12 (by decide) (by decide) (by decide) (by decide) (by decide)) (fM.2.1 7 (by decide) (by decide) (by decide))⟩, ⟨dn, dp, df, rD.mv (fC.1 27 (by decide)) (fM.1 36 (by decide)) (fC.2.1 42 (by decide) (by decide) (by decide) (by decide) (by decide)) (fC.2.1 43 (by decide) (by decide) (by decide) (by decide) (by decide)) (fM.2.1 53 (by decide) (by decide) (by decide)) (fM.2.1 54 (by decide) (by decide) (by decide))⟩, ((fC.1 11 (by decide)).trans (hpl.trans (fM.1 12 (by decide)).symm)), ⟨fn, kd, fa, fb, hF1.mv (fC.1 25 (by decide)) (fC.2.1 35 (by decide) (by decide) (by decide) (by decide) (by decide)) (fC.2.1 36 (by decide) (by decide) (by decide) (by decide) (by decide)) (fC.2.1 37 (by decide) (by decide) (by decide) (by decide) (by decide)) (fC.2.1 38 (by decide) (by decide) (by decide) (by decide) (by decide)) (fC.2.1 39 (by decide) (by decide) (by decide) (by decide) (by decide))⟩, hS.mv le (fun j x y z => (fC.1 j (by omega))) (fun j x => (fC.2.1 j (by omega) (by omega) (by omega) (by omega) (by omega))) (fun i _ => by rw [(fC.2.1 17 (by decide) (by decide) (by decide) (by decide) (by decide))]) (fun j x => (fM.1 j (by omega))) (fun j x => (fM.2.1 j (by omega) (by omega) (by omega)))⟩⟩
theorem sim_write {n : Nat} (hn : 500000000 ≤ n) {sC sM : StT} (hI : REL sC sM) (a : Int32) : SIM1 (f_X11_write n sC a) (f_X12_write n sM a) := by
  obtain ⟨D, hH, ⟨tn, tx, rT⟩, ⟨gn, gv, rG⟩, ⟨wn, rW⟩, ⟨dn, dp, df, rD⟩, hpl, ⟨fn, kd, fa, fb, hF1⟩, hS⟩ := hI
  have hn1 : 100000 ≤ n := by omega
  obtain ⟨r, sC', sM', wn', e1, e2, rW', fC, fM⟩ := op_write hn1 hH.1 hH.2.1 hH.2.2.1 hH.2.2.2.1 hH.2.2.2.2.2.1 hH.2.2.2.2.2.2.1 hH.2.2.2.2.2.2.2 rW a
  exact ⟨r, sC', sM', e1, e2, ⟨D, hH.mv (fC.1 6 (by decide) (by decide) (by decide)) (fC.1 7 (by decide) (by decide) (by decide)) (fun j x y => (fC.2.1 j (by omega) (by omega) (by omega))) (by rw [fC.2.2]) (fM.1 0 (by decide) (by decide) (by decide)) (fM.1 2 (by decide) (by decide) (by decide)) (fun j x => (fM.2.1 j (by omega) (by omega) (by omega) (by omega) (by omega) (by omega))), ⟨tn, tx, rT.mv (fC.1 0 (by decide) (by decide) (by decide)) (fM.1 3 (by decide) (by decide) (by decide)) (fC.2.1 1 (by decide) (by decide) (by decide)) (fM.2.1 6 (by decide) (by decide) (by decide) (by decide) (by decide) (by decide))⟩, ⟨gn, gv, rG.mv (Nat.le_refl _) (fC.1 28 (by decide) (by decide) (by decide)) (fM.1 16 (by decide) (by decide) (by decide)) (fC.2.1 0 (by decide) (by decide) (by decide)) (fM.2.1 9 (by decide) (by decide) (by decide) (by decide) (by decide) (by decide))⟩, ⟨wn', rW'⟩, ⟨dn, dp, df, rD.mv (fC.1 27 (by decide) (by decide) (by decide)) (fM.1 36 (by decide) (by decide) (by decide)) (fC.2.1 42 (by decide) (by decide) (by decide)) (fC.2.1 43 (by decide) (by decide) (by decide)) (fM.2.1 53 (by decide) (by decide) (by decide) (by decide) (by decide) (by decide)) (fM.2.1 54 (by decide) (by decide) (by decide) (by decide) (by decide) (by decide))⟩, ((fC.1 11 (by decide) (by decide) (by decide)).trans (hpl.trans (fM.1 12 (by decide) (by decide) (by decide)).symm)), ⟨fn, kd, fa, fb, hF1.mv (fC.1 25 (by decide) (by decide) (by decide)) (fC.2.1 35 (by decide) (by decide) (by decide)) (fC.2.1 36 (by decide) (by decide) (by decide)) (fC.2.1 37 (by decide) (by decide) (by decide)) (fC.2.1 38 (by decide) (by decide) (by decide)) (fC.2.1 39 (by decide) (by decide) (by decide))⟩, hS.mv (Nat.le_refl _) (fun j x y z => (fC.1 j (by omega) (by omega) (by omega))) (fun j x => (fC.2.1 j (by omega) (by omega) (by omega))) (fun i _ => by rw [(fC.2.1 17 (by decide) (by decide) (by decide))]) (fun j x => (fM.1 j (by omega) (by omega) (by omega))) (fun j x => (fM.2.1 j (by omega) (by omega) (by omega) (by omega) (by omega) (by omega)))⟩⟩
theorem sim_octet {n : Nat} (hn : 500000000 ≤ n) {sC sM : StT} (hI : REL sC sM) (a : Int32) : SIM1 (f_X11_octet n sC a) (f_X12_octet n sM a) := by
  obtain ⟨D, hH, ⟨tn, tx, rT⟩, ⟨gn, gv, rG⟩, ⟨wn, rW⟩, ⟨dn, dp, df, rD⟩, hpl, ⟨fn, kd, fa, fb, hF1⟩, hS⟩ := hI
  have hn1 : 100000 ≤ n := by omega
  obtain ⟨r, e1, e2⟩ := op_octet (n := n) rW a
  exact ⟨r, sC, sM, e1, e2, ⟨D, hH, ⟨tn, tx, rT⟩, ⟨gn, gv, rG⟩, ⟨wn, rW⟩, ⟨dn, dp, df, rD⟩, hpl, ⟨fn, kd, fa, fb, hF1⟩, hS⟩⟩
theorem sim_given {n : Nat} (hn : 500000000 ≤ n) {sC sM : StT} (hI : REL sC sM) (a : Int32) : SIM1 (f_X11_given n sC a) (f_X12_given n sM a) := by
  obtain ⟨D, hH, ⟨tn, tx, rT⟩, ⟨gn, gv, rG⟩, ⟨wn, rW⟩, ⟨dn, dp, df, rD⟩, hpl, ⟨fn, kd, fa, fb, hF1⟩, hS⟩ := hI
  have hn1 : 100000 ≤ n := by omega
  rcases op_given (n := n) hH.1.1 hH.2.1.1 hH.2.2.1.2.1 rG a with ⟨r, e1, e2⟩ | ⟨r, f, hg, hf, e1, e2⟩
  · exact ⟨r, sC, sM, e1, e2, ⟨D, hH, ⟨tn, tx, rT⟩, ⟨gn, gv, rG⟩, ⟨wn, rW⟩, ⟨dn, dp, df, rD⟩, hpl, ⟨fn, kd, fa, fb, hF1⟩, hS⟩⟩
  · generalize hc : uF (uA sC 0 (nI gn) (nI f)) 28 (nI (gn + 1)) = sC' at e1
    generalize hm : uF (uA sM 9 (nI gn) (nI f)) 16 (nI (gn + 1)) = sM' at e2
    have fC : (∀ j, j ≠ 28 → sC'.1 j = sC.1 j) ∧ (∀ j, j ≠ 0 → sC'.2.1 j = sC.2.1 j) ∧ sC'.2.2 = sC.2.2 := ⟨fun j hj => by rw [← hc]; simp only [uF_1, uA_1]; rw [if_neg hj], fun j hj => by rw [← hc]; simp only [uF_2, uA_21]; rw [if_neg hj], by rw [← hc]; rfl⟩
    have fM : (∀ j, j ≠ 16 → sM'.1 j = sM.1 j) ∧ (∀ j, j ≠ 9 → sM'.2.1 j = sM.2.1 j) ∧ sM'.2.2 = sM.2.2 := ⟨fun j hj => by rw [← hm]; simp only [uF_1, uA_1]; rw [if_neg hj], fun j hj => by rw [← hm]; simp only [uF_2, uA_21]; rw [if_neg hj], by rw [← hm]; rfl⟩
    have rG' : RelG sC' sM' (gn + 1) (updN gv gn f) D.1.1 := by
      refine ⟨by omega, by rw [← hc]; rfl, by rw [← hm]; rfl, fun i hi => ?_⟩
      have x1 : sC'.2.1 0 i = if i = gn then nI f else sC.2.1 0 i := by rw [← hc]; simp only [uF_2, uA_21, if_true, upd_j, nI_cl (show gn < 2 ^ 31 by omega)]
      have x2 : sM'.2.1 9 i = if i = gn then nI f else sM.2.1 9 i := by rw [← hm]; simp only [uF_2, uA_21, if_true, upd_j, nI_cl (show gn < 2 ^ 31 by omega)]
      rw [x1, x2]
      unfold updN
      by_cases c : i = gn
      · rw [if_pos c, if_pos c, if_pos c]; exact ⟨rfl, rfl, hf⟩
      · rw [if_neg c, if_neg c, if_neg c]; exact rG.2.2.2 i (by omega)
    exact ⟨r, sC', sM', e1, e2, ⟨D, hH.mv (fC.1 6 (by decide)) (fC.1 7 (by decide)) (fun j x y => (fC.2.1 j (by omega))) (by rw [fC.2.2]) (fM.1 0 (by decide)) (fM.1 2 (by decide)) (fun j x => (fM.2.1 j (by omega))), ⟨tn, tx, rT.mv (fC.1 0 (by decide)) (fM.1 3 (by decide)) (fC.2.1 1 (by decide)) (fM.2.1 6 (by decide))⟩, ⟨gn + 1, updN gv gn f, rG'⟩, ⟨wn, rW.mv (fC.1 13 (by decide)) (fM.1 14 (by decide)) (fC.2.1 12 (by decide)) (fM.2.1 7 (by decide))⟩, ⟨dn, dp, df, rD.mv (fC.1 27 (by decide)) (fM.1 36 (by decide)) (fC.2.1 42 (by decide)) (fC.2.1 43 (by decide)) (fM.2.1 53 (by decide)) (fM.2.1 54 (by decide))⟩, ((fC.1 11 (by decide)).trans (hpl.trans (fM.1 12 (by decide)).symm)), ⟨fn, kd, fa, fb, hF1.mv (fC.1 25 (by decide)) (fC.2.1 35 (by decide)) (fC.2.1 36 (by decide)) (fC.2.1 37 (by decide)) (fC.2.1 38 (by decide)) (fC.2.1 39 (by decide))⟩, hS.mv (Nat.le_refl _) (fun j x y z => (fC.1 j (by omega))) (fun j x => (fC.2.1 j (by omega))) (fun i _ => by rw [(fC.2.1 17 (by decide))]) (fun j x => (fM.1 j (by omega))) (fun j x => (fM.2.1 j (by omega)))⟩⟩
theorem sim_forget {n : Nat} (hn : 500000000 ≤ n) {sC sM : StT} (hI : REL sC sM)  : SIM1 (f_X11_forget n sC ) (f_X12_forget n sM ) := by
  obtain ⟨D, hH, ⟨tn, tx, rT⟩, ⟨gn, gv, rG⟩, ⟨wn, rW⟩, ⟨dn, dp, df, rD⟩, hpl, ⟨fn, kd, fa, fb, hF1⟩, hS⟩ := hI
  have hn1 : 100000 ≤ n := by omega
  generalize hc : uF sC 28 0 = sC'
  generalize hm : uF sM 16 0 = sM'
  have fC : (∀ j, j ≠ 28 → sC'.1 j = sC.1 j) ∧ (∀ j, j ≠ 100 → sC'.2.1 j = sC.2.1 j) ∧ sC'.2.2 = sC.2.2 := ⟨fun j hj => by rw [← hc]; simp only [uF_1]; rw [if_neg hj], fun j hj => by rw [← hc]; rfl, by rw [← hc]; rfl⟩
  have fM : (∀ j, j ≠ 16 → sM'.1 j = sM.1 j) ∧ (∀ j, j ≠ 100 → sM'.2.1 j = sM.2.1 j) ∧ sM'.2.2 = sM.2.2 := ⟨fun j hj => by rw [← hm]; simp only [uF_1]; rw [if_neg hj], fun j hj => by rw [← hm]; rfl, by rw [← hm]; rfl⟩
  have rG' : RelG sC' sM' 0 gv D.1.1 := ⟨by omega, by rw [← hc]; rfl, by rw [← hm]; rfl, fun i hi => absurd hi (by omega)⟩
  refine ⟨sC.1 28, sC', sM', by unfold f_X11_forget; rw [hc], by unfold f_X12_forget; rw [hm, rG.2.1, rG.2.2.1], ⟨D, hH.mv (fC.1 6 (by decide)) (fC.1 7 (by decide)) (fun j x y => (fC.2.1 j (by omega))) (by rw [fC.2.2]) (fM.1 0 (by decide)) (fM.1 2 (by decide)) (fun j x => (fM.2.1 j (by omega))), ⟨tn, tx, rT.mv (fC.1 0 (by decide)) (fM.1 3 (by decide)) (fC.2.1 1 (by decide)) (fM.2.1 6 (by decide))⟩, ⟨0, gv, rG'⟩, ⟨wn, rW.mv (fC.1 13 (by decide)) (fM.1 14 (by decide)) (fC.2.1 12 (by decide)) (fM.2.1 7 (by decide))⟩, ⟨dn, dp, df, rD.mv (fC.1 27 (by decide)) (fM.1 36 (by decide)) (fC.2.1 42 (by decide)) (fC.2.1 43 (by decide)) (fM.2.1 53 (by decide)) (fM.2.1 54 (by decide))⟩, ((fC.1 11 (by decide)).trans (hpl.trans (fM.1 12 (by decide)).symm)), ⟨fn, kd, fa, fb, hF1.mv (fC.1 25 (by decide)) (fC.2.1 35 (by decide)) (fC.2.1 36 (by decide)) (fC.2.1 37 (by decide)) (fC.2.1 38 (by decide)) (fC.2.1 39 (by decide))⟩, hS.mv (Nat.le_refl _) (fun j x y z => (fC.1 j (by omega))) (fun j x => (fC.2.1 j (by omega))) (fun i _ => by rw [(fC.2.1 17 (by decide))]) (fun j x => (fM.1 j (by omega))) (fun j x => (fM.2.1 j (by omega)))⟩⟩
theorem sim_prove {n : Nat} (hn : 500000000 ≤ n) {sC sM : StT} (hI : REL sC sM) (a b : Int32) : SIM1 (f_X11_prove n sC a b) (f_X12_prove n sM a b) := by
  obtain ⟨D, hH, ⟨tn, tx, rT⟩, ⟨gn, gv, rG⟩, ⟨wn, rW⟩, ⟨dn, dp, df, rD⟩, hpl, ⟨fn, kd, fa, fb, hF1⟩, hS⟩ := hI
  have hn1 : 100000 ≤ n := by omega
  obtain ⟨r, sC', sM', D', e1, e2, hH', gd, h⟩ := op_prove hn1 hH rG a b
  rcases h with ⟨rfl, rfl⟩ | ⟨hS', fC, fM⟩
  · exact ⟨r, sC', sM', e1, e2, ⟨D', hH', ⟨tn, tx, rT⟩, ⟨gn, gv, rG.mv gd.1 rfl rfl rfl rfl⟩, ⟨wn, rW⟩, ⟨dn, dp, df, rD⟩, hpl, ⟨fn, kd, fa, fb, hF1⟩, hS.mv gd.1 (fun _ _ _ _ => rfl) (fun _ _ => rfl) (fun _ _ => rfl) (fun _ _ => rfl) (fun _ _ => rfl)⟩⟩
  · exact ⟨r, sC', sM', e1, e2, ⟨D', hH', ⟨tn, tx, rT.mv (fC.1 0 (by decide)) (fM.1 3 (by decide)) (fC.2.1 1 (by decide)) (fM.2.1 6 (by decide))⟩, ⟨gn, gv, rG.mv gd.1 (fC.1 28 (by decide)) (fM.1 16 (by decide)) (fC.2.1 0 (by decide)) (fM.2.1 9 (by decide))⟩, ⟨wn, rW.mv (fC.1 13 (by decide)) (fM.1 14 (by decide)) (fC.2.1 12 (by decide)) (fM.2.1 7 (by decide))⟩, ⟨dn, dp, df, rD.mv (fC.1 27 (by decide)) (fM.1 36 (by decide)) (fC.2.1 42 (by decide)) (fC.2.1 43 (by decide)) (fM.2.1 53 (by decide)) (fM.2.1 54 (by decide))⟩, ((fC.1 11 (by decide)).trans (hpl.trans (fM.1 12 (by decide)).symm)), ⟨fn, kd, fa, fb, hF1.mv (fC.1 25 (by decide)) (fC.2.1 35 (by decide)) (fC.2.1 36 (by decide)) (fC.2.1 37 (by decide)) (fC.2.1 38 (by decide)) (fC.2.1 39 (by decide))⟩, hS'⟩⟩
theorem sim_told {n : Nat} (hn : 500000000 ≤ n) {sC sM : StT} (hI : REL sC sM) (a : Int32) : SIM1 (f_X11_told n sC a) (f_X12_told n sM a) := by
  obtain ⟨D, hH, ⟨tn, tx, rT⟩, ⟨gn, gv, rG⟩, ⟨wn, rW⟩, ⟨dn, dp, df, rD⟩, hpl, ⟨fn, kd, fa, fb, hF1⟩, hS⟩ := hI
  have hn1 : 100000 ≤ n := by omega
  obtain ⟨r, e1, e2⟩ := op_told (n := n) (x := a) hS.1 hS.2.1 hS.2.2.1 hS.2.2.2.1
  exact ⟨r, sC, sM, e1, e2, ⟨D, hH, ⟨tn, tx, rT⟩, ⟨gn, gv, rG⟩, ⟨wn, rW⟩, ⟨dn, dp, df, rD⟩, hpl, ⟨fn, kd, fa, fb, hF1⟩, hS⟩⟩
theorem sim_proof {n : Nat} (hn : 500000000 ≤ n) {sC sM : StT} (hI : REL sC sM)  : SIM1 (f_X11_proof n sC ) (f_X12_proof n sM ) := by
  obtain ⟨D, hH, ⟨tn, tx, rT⟩, ⟨gn, gv, rG⟩, ⟨wn, rW⟩, ⟨dn, dp, df, rD⟩, hpl, ⟨fn, kd, fa, fb, hF1⟩, hS⟩ := hI
  have hn1 : 100000 ≤ n := by omega
  obtain ⟨r, sC', sM', wn', e1, e2, rW', hS', fC, fM⟩ := op_proof hn hH hS rW
  exact ⟨r, sC', sM', e1, e2, ⟨D, hH.mv (fC.1 6 (by decide)) (fC.1 7 (by decide)) (fun j x y => (fC.2.1 j (by omega))) (by rw [fC.2.2]) (fM.1 0 (by decide) (by decide) (by decide) (by decide)) (fM.1 2 (by decide) (by decide) (by decide) (by decide)) (fun j x => (fM.2.1 j (by omega) (by omega) (by omega))), ⟨tn, tx, rT.mv (fC.1 0 (by decide)) (fM.1 3 (by decide) (by decide) (by decide) (by decide)) (fC.2.1 1 (by decide)) (fM.2.1 6 (by decide) (by decide) (by decide))⟩, ⟨gn, gv, rG.mv (Nat.le_refl _) (fC.1 28 (by decide)) (fM.1 16 (by decide) (by decide) (by decide) (by decide)) (fC.2.1 0 (by decide)) (fM.2.1 9 (by decide) (by decide) (by decide))⟩, ⟨wn', rW'⟩, ⟨dn, dp, df, rD.mv (fC.1 27 (by decide)) (fM.1 36 (by decide) (by decide) (by decide) (by decide)) (fC.2.1 42 (by decide)) (fC.2.1 43 (by decide)) (fM.2.1 53 (by decide) (by decide) (by decide)) (fM.2.1 54 (by decide) (by decide) (by decide))⟩, ((fC.1 11 (by decide)).trans (hpl.trans (fM.1 12 (by decide) (by decide) (by decide) (by decide)).symm)), ⟨fn, kd, fa, fb, hF1.mv (fC.1 25 (by decide)) (fC.2.1 35 (by decide)) (fC.2.1 36 (by decide)) (fC.2.1 37 (by decide)) (fC.2.1 38 (by decide)) (fC.2.1 39 (by decide))⟩, hS'⟩⟩
theorem sim_check {n : Nat} (hn : 500000000 ≤ n) {sC sM : StT} (hI : REL sC sM) (a : Int32) : SIM1 (f_X11_check n sC a) (f_X12_check n sM a) := by
  obtain ⟨D, hH, ⟨tn, tx, rT⟩, ⟨gn, gv, rG⟩, ⟨wn, rW⟩, ⟨dn, dp, df, rD⟩, hpl, ⟨fn, kd, fa, fb, hF1⟩, hS⟩ := hI
  have hn1 : 100000 ≤ n := by omega
  obtain ⟨r, sC', sM', D', e1, e2, hH', gd, hpl', hF', fC, fM⟩ := op_check hn1 hH rT.tx.1 rT.tx.2 rG hF1 hpl a
  exact ⟨r, sC', sM', e1, e2, ⟨D', hH', ⟨tn, tx, rT.mv (fC.1 0 (by decide)) (fM.1 3 (by decide)) (fC.2.1 1 (by decide)) (fM.2.1 6 (by decide))⟩, ⟨gn, gv, rG.mv gd.1 (fC.1 28 (by decide)) (fM.1 16 (by decide)) (fC.2.1 0 (by decide)) (fM.2.1 9 (by decide))⟩, ⟨wn, rW.mv (fC.1 13 (by decide)) (fM.1 14 (by decide)) (fC.2.1 12 (by decide)) (fM.2.1 7 (by decide))⟩, ⟨dn, dp, df, rD.mv (fC.1 27 (by decide)) (fM.1 36 (by decide)) (fC.2.1 42 (by decide)) (fC.2.1 43 (by decide)) (fM.2.1 53 (by decide)) (fM.2.1 54 (by decide))⟩, hpl', hF', hS.mv gd.1 (fun j x y z => (fC.1 j (by omega))) (fun j x => (fC.2.1 j (by omega))) (fun i _ => by rw [(fC.2.1 17 (by decide))]) (fun j x => (fM.1 j (by omega))) (fun j x => (fM.2.1 j (by omega)))⟩⟩
theorem sim_classical {n : Nat} (hn : 500000000 ≤ n) {sC sM : StT} (hI : REL sC sM) (a : Int32) : SIM1 (f_X11_classical n sC a) (f_X12_classical n sM a) := by
  obtain ⟨D, hH, ⟨tn, tx, rT⟩, ⟨gn, gv, rG⟩, ⟨wn, rW⟩, ⟨dn, dp, df, rD⟩, hpl, ⟨fn, kd, fa, fb, hF1⟩, hS⟩ := hI
  have hn1 : 100000 ≤ n := by omega
  obtain ⟨r, sC', sM', e1, e2, fC, fM⟩ := op_classical hn1 hH.1 hH.2.1 hH.2.2.2.2.1 hH.2.2.1 a
  exact ⟨r, sC', sM', e1, e2, ⟨D, hH.mv (fC.1 6 ) (fC.1 7 ) (fun j x y => (fC.2.1 j (by omega))) (fC.2.2.2 0 (by decide)) (fM.1 0 ) (fM.1 2 ) (fun j x => (fM.2.1 j (by omega) (by omega) (by omega))), ⟨tn, tx, rT.mv (fC.1 0 ) (fM.1 3 ) (fC.2.1 1 (by decide)) (fM.2.1 6 (by decide) (by decide) (by decide))⟩, ⟨gn, gv, rG.mv (Nat.le_refl _) (fC.1 28 ) (fM.1 16 ) (fC.2.1 0 (by decide)) (fM.2.1 9 (by decide) (by decide) (by decide))⟩, ⟨wn, rW.mv (fC.1 13 ) (fM.1 14 ) (fC.2.1 12 (by decide)) (fM.2.1 7 (by decide) (by decide) (by decide))⟩, ⟨dn, dp, df, rD.mv (fC.1 27 ) (fM.1 36 ) (fC.2.1 42 (by decide)) (fC.2.1 43 (by decide)) (fM.2.1 53 (by decide) (by decide) (by decide)) (fM.2.1 54 (by decide) (by decide) (by decide))⟩, ((fC.1 11 ).trans (hpl.trans (fM.1 12 ).symm)), ⟨fn, kd, fa, fb, hF1.mv (fC.1 25 ) (fC.2.1 35 (by decide)) (fC.2.1 36 (by decide)) (fC.2.1 37 (by decide)) (fC.2.1 38 (by decide)) (fC.2.1 39 (by decide))⟩, hS.mv (Nat.le_refl _) (fun j x y z => (fC.1 j )) (fun j x => (fC.2.1 j (by omega))) (fun i _ => by rw [(fC.2.1 17 (by decide))]) (fun j x => (fM.1 j )) (fun j x => (fM.2.1 j (by omega) (by omega) (by omega)))⟩⟩
theorem sim_refute {n : Nat} (hn : 500000000 ≤ n) {sC sM : StT} (hI : REL sC sM)  : SIM1 (f_X11_refute n sC ) (f_X12_refute n sM ) := by
  obtain ⟨D, hH, ⟨tn, tx, rT⟩, ⟨gn, gv, rG⟩, ⟨wn, rW⟩, ⟨dn, dp, df, rD⟩, hpl, ⟨fn, kd, fa, fb, hF1⟩, hS⟩ := hI
  have hn1 : 100000 ≤ n := by omega
  obtain ⟨r, sC', sM', dn', dp', df', e1, e2, rD', fC, fM⟩ := op_refute hn1 hS rD
  exact ⟨r, sC', sM', e1, e2, ⟨D, hH.mv (fC.1 6 (by decide)) (fC.1 7 (by decide)) (fun j x y => (fC.2.1 j (by omega))) (by rw [fC.2.2]) (fM.1 0 (by decide)) (fM.1 2 (by decide)) (fun j x => (fM.2.1 j (by omega) (by omega) (by omega) (by omega))), ⟨tn, tx, rT.mv (fC.1 0 (by decide)) (fM.1 3 (by decide)) (fC.2.1 1 (by decide)) (fM.2.1 6 (by decide) (by decide) (by decide) (by decide))⟩, ⟨gn, gv, rG.mv (Nat.le_refl _) (fC.1 28 (by decide)) (fM.1 16 (by decide)) (fC.2.1 0 (by decide)) (fM.2.1 9 (by decide) (by decide) (by decide) (by decide))⟩, ⟨wn, rW.mv (fC.1 13 (by decide)) (fM.1 14 (by decide)) (fC.2.1 12 (by decide)) (fM.2.1 7 (by decide) (by decide) (by decide) (by decide))⟩, ⟨dn', dp', df', rD'⟩, ((fC.1 11 (by decide)).trans (hpl.trans (fM.1 12 (by decide)).symm)), ⟨fn, kd, fa, fb, hF1.mv (fC.1 25 (by decide)) (fC.2.1 35 (by decide)) (fC.2.1 36 (by decide)) (fC.2.1 37 (by decide)) (fC.2.1 38 (by decide)) (fC.2.1 39 (by decide))⟩, hS.mv (Nat.le_refl _) (fun j x y z => (fC.1 j (by omega))) (fun j x => (fC.2.1 j (by omega))) (fun i _ => by rw [(fC.2.1 17 (by decide))]) (fun j x => (fM.1 j (by omega))) (fun j x => (fM.2.1 j (by omega) (by omega) (by omega) (by omega)))⟩⟩
theorem sim_clear {n : Nat} (hn : 500000000 ≤ n) {sC sM : StT} (hI : REL sC sM)  : SIM1 (f_X11_clear n sC ) (f_X12_clear n sM ) := by
  obtain ⟨D, hH, ⟨tn, tx, rT⟩, ⟨gn, gv, rG⟩, ⟨wn, rW⟩, ⟨dn, dp, df, rD⟩, hpl, ⟨fn, kd, fa, fb, hF1⟩, hS⟩ := hI
  have hn1 : 100000 ≤ n := by omega
  obtain ⟨e1, e2, rD'⟩ := op_clear (n := n) rD
  generalize hc : uA (uF sC 27 1) 43 0 0 = sC' at e1 rD'
  generalize hm : uA (uA (uF sM 36 1) 53 0 (-1)) 54 0 0 = sM' at e2 rD'
  have fC : (∀ j, j ≠ 27 → sC'.1 j = sC.1 j) ∧ (∀ j, j ≠ 43 → sC'.2.1 j = sC.2.1 j) ∧ sC'.2.2 = sC.2.2 := ⟨fun j hj => by rw [← hc]; simp only [uA_1, uF_1]; rw [if_neg hj], fun j hj => by rw [← hc]; simp only [uA_21, uF_2]; rw [if_neg hj], by rw [← hc]; rfl⟩
  have fM : (∀ j, j ≠ 36 → sM'.1 j = sM.1 j) ∧ (∀ j, j ≠ 53 → j ≠ 54 → sM'.2.1 j = sM.2.1 j) ∧ sM'.2.2 = sM.2.2 := ⟨fun j hj => by rw [← hm]; simp only [uA_1, uF_1]; rw [if_neg hj], fun j hj hj2 => by rw [← hm]; simp only [uA_21, uF_2]; rw [if_neg hj2, if_neg hj], by rw [← hm]; rfl⟩
  exact ⟨_, sC', sM', e1, e2, ⟨D, hH.mv (fC.1 6 (by decide)) (fC.1 7 (by decide)) (fun j x y => (fC.2.1 j (by omega))) (by rw [fC.2.2]) (fM.1 0 (by decide)) (fM.1 2 (by decide)) (fun j x => (fM.2.1 j (by omega) (by omega))), ⟨tn, tx, rT.mv (fC.1 0 (by decide)) (fM.1 3 (by decide)) (fC.2.1 1 (by decide)) (fM.2.1 6 (by decide) (by decide))⟩, ⟨gn, gv, rG.mv (Nat.le_refl _) (fC.1 28 (by decide)) (fM.1 16 (by decide)) (fC.2.1 0 (by decide)) (fM.2.1 9 (by decide) (by decide))⟩, ⟨wn, rW.mv (fC.1 13 (by decide)) (fM.1 14 (by decide)) (fC.2.1 12 (by decide)) (fM.2.1 7 (by decide) (by decide))⟩, ⟨1, dp, _, rD'⟩, ((fC.1 11 (by decide)).trans (hpl.trans (fM.1 12 (by decide)).symm)), ⟨fn, kd, fa, fb, hF1.mv (fC.1 25 (by decide)) (fC.2.1 35 (by decide)) (fC.2.1 36 (by decide)) (fC.2.1 37 (by decide)) (fC.2.1 38 (by decide)) (fC.2.1 39 (by decide))⟩, hS.mv (Nat.le_refl _) (fun j x y z => (fC.1 j (by omega))) (fun j x => (fC.2.1 j (by omega))) (fun i _ => by rw [(fC.2.1 17 (by decide))]) (fun j x => (fM.1 j (by omega))) (fun j x => (fM.2.1 j (by omega) (by omega)))⟩⟩
theorem sim_world {n : Nat} (hn : 500000000 ≤ n) {sC sM : StT} (hI : REL sC sM) (a : Int32) : SIM1 (f_X11_world n sC a) (f_X12_world n sM a) := by
  obtain ⟨D, hH, ⟨tn, tx, rT⟩, ⟨gn, gv, rG⟩, ⟨wn, rW⟩, ⟨dn, dp, df, rD⟩, hpl, ⟨fn, kd, fa, fb, hF1⟩, hS⟩ := hI
  have hn1 : 100000 ≤ n := by omega
  rcases op_world (n := n) rD a with ⟨r, e1, e2⟩ | ⟨r, sC', sM', p, e1, e2, hd, hp, hc, hm⟩
  · exact ⟨r, sC, sM, e1, e2, ⟨D, hH, ⟨tn, tx, rT⟩, ⟨gn, gv, rG⟩, ⟨wn, rW⟩, ⟨dn, dp, df, rD⟩, hpl, ⟨fn, kd, fa, fb, hF1⟩, hS⟩⟩
  · have fC : (∀ j, j ≠ 27 → sC'.1 j = sC.1 j) ∧ (∀ j, j ≠ 42 → j ≠ 43 → sC'.2.1 j = sC.2.1 j) ∧ sC'.2.2 = sC.2.2 := ⟨fun j hj => by rw [hc]; simp only [uF_1, uA_1]; rw [if_neg hj], fun j hj hj2 => by rw [hc]; simp only [uF_2, uA_21]; rw [if_neg hj2, if_neg hj], by rw [hc]; rfl⟩
    have fM : (∀ j, j ≠ 36 → sM'.1 j = sM.1 j) ∧ (∀ j, j ≠ 53 → j ≠ 54 → sM'.2.1 j = sM.2.1 j) ∧ sM'.2.2 = sM.2.2 := ⟨fun j hj => by rw [hm]; simp only [uF_1, uA_1]; rw [if_neg hj], fun j hj hj2 => by rw [hm]; simp only [uF_2, uA_21]; rw [if_neg hj2, if_neg hj], by rw [hm]; rfl⟩
    have rD' : RelD sC' sM' (dn + 1) (updN dp dn p) (fun w => if w = dn then df p else df w) := by
      obtain ⟨d1, d2, d3, d4, d5, d6, d7, d8⟩ := rD
      have x42 : ∀ i, sC'.2.1 42 i = if i = dn then nI p else sC.2.1 42 i := fun i => by rw [hc]; simp only [uF_2, uA_21, if_neg (show ¬ (42 : Nat) = 43 by decide), if_true, upd_j, nI_cl (show dn < 2 ^ 31 by omega)]
      have x43 : ∀ i, sC'.2.1 43 i = if i = dn then df p else sC.2.1 43 i := fun i => by rw [hc]; simp only [uF_2, uA_21, if_neg (show ¬ (43 : Nat) = 42 by decide), if_true, upd_j, nI_cl (show dn < 2 ^ 31 by omega)]
      have x53 : ∀ i, sM'.2.1 53 i = if i = dn then nI p else sM.2.1 53 i := fun i => by rw [hm]; simp only [uF_2, uA_21, if_neg (show ¬ (53 : Nat) = 54 by decide), if_true, upd_j, nI_cl (show dn < 2 ^ 31 by omega)]
      have x54 : ∀ i, sM'.2.1 54 i = if i = dn then df p else sM.2.1 54 i := fun i => by rw [hm]; simp only [uF_2, uA_21, if_neg (show ¬ (54 : Nat) = 53 by decide), if_true, upd_j, nI_cl (show dn < 2 ^ 31 by omega)]
      refine ⟨by omega, by omega, by rw [hc]; rfl, by rw [hm]; rfl, fun w hw => ?_, by rw [x42, if_neg (by omega)]; exact d6, by rw [x53, if_neg (by omega)]; exact d7, fun w hw hw2 => ?_⟩
      · rw [x43, x54]
        by_cases c : w = dn
        · simp only [c, if_true]; exact ⟨trivial, trivial⟩
        · simp only [c, if_false]; exact d5 w (by omega)
      · rw [x42, x53]
        unfold updN
        by_cases c : w = dn
        · rw [if_pos c, if_pos c, if_pos c]; exact ⟨rfl, rfl, by omega⟩
        · rw [if_neg c, if_neg c, if_neg c]; exact d8 w hw (by omega)
    exact ⟨r, sC', sM', e1, e2, ⟨D, hH.mv (fC.1 6 (by decide)) (fC.1 7 (by decide)) (fun j x y => (fC.2.1 j (by omega) (by omega))) (by rw [fC.2.2]) (fM.1 0 (by decide)) (fM.1 2 (by decide)) (fun j x => (fM.2.1 j (by omega) (by omega))), ⟨tn, tx, rT.mv (fC.1 0 (by decide)) (fM.1 3 (by decide)) (fC.2.1 1 (by decide) (by decide)) (fM.2.1 6 (by decide) (by decide))⟩, ⟨gn, gv, rG.mv (Nat.le_refl _) (fC.1 28 (by decide)) (fM.1 16 (by decide)) (fC.2.1 0 (by decide) (by decide)) (fM.2.1 9 (by decide) (by decide))⟩, ⟨wn, rW.mv (fC.1 13 (by decide)) (fM.1 14 (by decide)) (fC.2.1 12 (by decide) (by decide)) (fM.2.1 7 (by decide) (by decide))⟩, ⟨dn + 1, _, _, rD'⟩, ((fC.1 11 (by decide)).trans (hpl.trans (fM.1 12 (by decide)).symm)), ⟨fn, kd, fa, fb, hF1.mv (fC.1 25 (by decide)) (fC.2.1 35 (by decide) (by decide)) (fC.2.1 36 (by decide) (by decide)) (fC.2.1 37 (by decide) (by decide)) (fC.2.1 38 (by decide) (by decide)) (fC.2.1 39 (by decide) (by decide))⟩, hS.mv (Nat.le_refl _) (fun j x y z => (fC.1 j (by omega))) (fun j x => (fC.2.1 j (by omega) (by omega))) (fun i _ => by rw [(fC.2.1 17 (by decide) (by decide))]) (fun j x => (fM.1 j (by omega))) (fun j x => (fM.2.1 j (by omega) (by omega)))⟩⟩
theorem sim_force {n : Nat} (hn : 500000000 ≤ n) {sC sM : StT} (hI : REL sC sM) (a b : Int32) : SIM1 (f_X11_force n sC a b) (f_X12_force n sM a b) := by
  obtain ⟨D, hH, ⟨tn, tx, rT⟩, ⟨gn, gv, rG⟩, ⟨wn, rW⟩, ⟨dn, dp, df, rD⟩, hpl, ⟨fn, kd, fa, fb, hF1⟩, hS⟩ := hI
  have hn1 : 100000 ≤ n := by omega
  obtain ⟨r, sC', sM', df', e1, e2, rD', fC, fM⟩ := op_force hn1 rD hH.2.2.2.1 hH.2.2.2.2.1.1 hH.2.2.1.2.2.2.2.1 a b
  exact ⟨r, sC', sM', e1, e2, ⟨D, hH.mv (fC.1 6 ) (fC.1 7 ) (fun j x y => (fC.2.1 j (by omega))) (by rw [fC.2.2]) (fM.1 0 ) (fM.1 2 ) (fun j x => (fM.2.1 j (by omega))), ⟨tn, tx, rT.mv (fC.1 0 ) (fM.1 3 ) (fC.2.1 1 (by decide)) (fM.2.1 6 (by decide))⟩, ⟨gn, gv, rG.mv (Nat.le_refl _) (fC.1 28 ) (fM.1 16 ) (fC.2.1 0 (by decide)) (fM.2.1 9 (by decide))⟩, ⟨wn, rW.mv (fC.1 13 ) (fM.1 14 ) (fC.2.1 12 (by decide)) (fM.2.1 7 (by decide))⟩, ⟨dn, dp, df', rD'⟩, ((fC.1 11 ).trans (hpl.trans (fM.1 12 ).symm)), ⟨fn, kd, fa, fb, hF1.mv (fC.1 25 ) (fC.2.1 35 (by decide)) (fC.2.1 36 (by decide)) (fC.2.1 37 (by decide)) (fC.2.1 38 (by decide)) (fC.2.1 39 (by decide))⟩, hS.mv (Nat.le_refl _) (fun j x y z => (fC.1 j )) (fun j x => (fC.2.1 j (by omega))) (fun i _ => by rw [(fC.2.1 17 (by decide))]) (fun j x => (fM.1 j )) (fun j x => (fM.2.1 j (by omega)))⟩⟩
theorem sim_about {n : Nat} (hn : 500000000 ≤ n) {sC sM : StT} (hI : REL sC sM) (a b c : Int32) : SIM1 (f_X11_about n sC a b c) (f_X12_about n sM a b c) := by
  obtain ⟨D, hH, ⟨tn, tx, rT⟩, ⟨gn, gv, rG⟩, ⟨wn, rW⟩, ⟨dn, dp, df, rD⟩, hpl, ⟨fn, kd, fa, fb, hF1⟩, hS⟩ := hI
  have hn1 : 100000 ≤ n := by omega
  obtain ⟨r, e1, e2⟩ := op_about hn1 rD hH.2.2.2.1 hH.2.2.2.2.1.1 hH.2.2.1.2.2.2.2.1 a b c
  exact ⟨r, sC, sM, e1, e2, ⟨D, hH, ⟨tn, tx, rT⟩, ⟨gn, gv, rG⟩, ⟨wn, rW⟩, ⟨dn, dp, df, rD⟩, hpl, ⟨fn, kd, fa, fb, hF1⟩, hS⟩⟩
theorem sim_holds {n : Nat} (hn : 500000000 ≤ n) {sC sM : StT} (hI : REL sC sM) (a b : Int32) : SIM1 (f_X11_holds n sC a b) (f_X12_holds n sM a b) := by
  obtain ⟨D, hH, ⟨tn, tx, rT⟩, ⟨gn, gv, rG⟩, ⟨wn, rW⟩, ⟨dn, dp, df, rD⟩, hpl, ⟨fn, kd, fa, fb, hF1⟩, hS⟩ := hI
  have hn1 : 100000 ≤ n := by omega
  obtain ⟨r, sC', sM', e1, e2, fC, fM⟩ := op_holds hn1 rD hH.1 hH.2.1 hH.2.2.1 hH.2.2.2.1 a b
  exact ⟨r, sC', sM', e1, e2, ⟨D, hH.mv (fC.1 6 ) (fC.1 7 ) (fun j x y => (fC.2.1 j (by omega))) (fC.2.2.2 0 (by decide)) (fM.1 0 ) (fM.1 2 ) (fun j x => (fM.2.1 j (by omega))), ⟨tn, tx, rT.mv (fC.1 0 ) (fM.1 3 ) (fC.2.1 1 (by decide)) (fM.2.1 6 (by decide))⟩, ⟨gn, gv, rG.mv (Nat.le_refl _) (fC.1 28 ) (fM.1 16 ) (fC.2.1 0 (by decide)) (fM.2.1 9 (by decide))⟩, ⟨wn, rW.mv (fC.1 13 ) (fM.1 14 ) (fC.2.1 12 (by decide)) (fM.2.1 7 (by decide))⟩, ⟨dn, dp, df, rD.mv (fC.1 27 ) (fM.1 36 ) (fC.2.1 42 (by decide)) (fC.2.1 43 (by decide)) (fM.2.1 53 (by decide)) (fM.2.1 54 (by decide))⟩, ((fC.1 11 ).trans (hpl.trans (fM.1 12 ).symm)), ⟨fn, kd, fa, fb, hF1.mv (fC.1 25 ) (fC.2.1 35 (by decide)) (fC.2.1 36 (by decide)) (fC.2.1 37 (by decide)) (fC.2.1 38 (by decide)) (fC.2.1 39 (by decide))⟩, hS.mv (Nat.le_refl _) (fun j x y z => (fC.1 j )) (fun j x => (fC.2.1 j (by omega))) (fun i _ => by rw [(fC.2.1 17 (by decide))]) (fun j x => (fM.1 j )) (fun j x => (fM.2.1 j (by omega)))⟩⟩
theorem sim_all {n : Nat} (hn : 500000000 ≤ n) : Sim n REL := by
  intro k v a b c sC sM hk hI
  match k, hk with
  | 0, _ => exact sim_feed hn hI v c
  | 1, _ => exact sim_read hn hI
  | 2, _ => exact sim_place hn hI
  | 3, _ => exact sim_count hn hI a
  | 4, _ => exact sim_formula hn hI a b
  | 5, _ => exact sim_make hn hI a b c
  | 6, _ => exact sim_write hn hI a
  | 7, _ => exact sim_octet hn hI a
  | 8, _ => exact sim_given hn hI a
  | 9, _ => exact sim_forget hn hI
  | 10, _ => exact sim_prove hn hI a b
  | 11, _ => exact sim_told hn hI a
  | 12, _ => exact sim_proof hn hI
  | 13, _ => exact sim_check hn hI a
  | 14, _ => exact sim_classical hn hI a
  | 15, _ => exact sim_refute hn hI
  | 16, _ => exact sim_clear hn hI
  | 17, _ => exact sim_world hn hI a
  | 18, _ => exact sim_force hn hI a b
  | 19, _ => exact sim_about hn hI a b c
  | 20, _ => exact sim_holds hn hI a b
  | k + 21, h => exact absurd h (by omega)
def t00 : FT := (2, fun f => if f = 1 then 1 else 0, fun _ => 0, fun _ => 0)
theorem rel_start : REL stC0 stM0 := by
  refine ⟨(t00, 0, fun _ => 0, fun _ => []), ⟨?_, ?_, ?_, ?_, ?_, ?_, ?_, ?_⟩, ⟨0, fun _ => 0, by omega, rfl, rfl, fun i hi => absurd hi (by omega)⟩, ⟨0, fun _ => 0, by omega, rfl, rfl, fun i hi => absurd hi (by omega)⟩, ⟨0, by omega, rfl, rfl, fun i hi => absurd hi (by omega)⟩, ⟨1, fun _ => 0, fun _ => 0, by omega, by omega, rfl, rfl, fun w hw => ?_, rfl, rfl, fun w h1 h2 => absurd h2 (by omega)⟩, rfl, ⟨2, fun f => if f = 1 then 1 else 0, fun _ => 0, fun _ => 0, ?_⟩, ⟨rfl, rfl, rfl, rfl, rfl, fun h => ?_, fun h => ?_⟩⟩
  · refine ⟨by decide +kernel, by decide, ?_, ?_, ?_⟩
    · decide +kernel
    · decide +kernel
    · decide +kernel
  · refine ⟨rfl, ?_⟩
    decide +kernel
  · refine ⟨by decide, by decide, by decide, by decide, by decide, fun f h1 h2 => absurd h2 (by show ¬ f < 2; omega), fun f g hf hg h1 _ _ => ?_⟩
    have hf : f < 2 := hf
    have hg : g < 2 := hg
    have h1 : (if f = 1 then 1 else 0) = if g = 1 then 1 else 0 := h1
    split at h1 <;> split at h1 <;> omega
  · decide +kernel
  · exact ⟨rfl, fun v hv => absurd hv (by show ¬ v < 0; omega)⟩
  · exact fun v hv => absurd hv (by show ¬ v < 0; omega)
  · exact fun v hv => absurd hv (by show ¬ v < 0; omega)
  · exact fun v hv => absurd hv (by show ¬ v < 0; omega)
  · rw [show w = 0 by omega]; exact ⟨rfl, rfl⟩
  · refine ⟨by decide +kernel, by decide, ?_, ?_, ?_⟩
    · decide +kernel
    · decide +kernel
    · decide +kernel
  · exact absurd h (by decide)
  · exact absurd h (by decide)
