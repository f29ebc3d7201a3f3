/-! ===== both scans ===== -/
theorem scanC {n : Nat} (hn : 100000 ≤ n) {s : StT} {tm : Bool} {tn : Nat} {bt : Nat → Nat} (hT : TxC s tn bt) (h1 : s.1 1 = mI tm) (h2 : s.1 2 = 0) {p : Nat} (h5 : s.1 5 = nI p) (hp : p ≤ tn) : ∃ s', f_X8_look n s = some (s'.1 3, uF s' 2 1) ∧ s'.1 3 = (tk tm tn bt (sk tn bt p)).1 ∧ s'.1 4 = nI (sk tn bt p) ∧ s'.1 5 = nI (sk tn bt p + (tk tm tn bt (sk tn bt p)).2.2) ∧ AgK s s' ∧ (sk tn bt p < tn → lt8 (bt (sk tn bt p)) = true → nx tn bt (sk tn bt p) - sk tn bt p ≤ 6 → s'.2.2.1 0 = Int64.ofNat (pkN (bts bt (sk tn bt p) (nx tn bt (sk tn bt p) - sk tn bt p)))) := by
  have hl := hT.1
  have hk := sk_bd (tn := tn) (bt := bt) (tn - p) p (by omega)
  unfold f_X8_look
  obtain ⟨s1, e1, e2, e3, e4⟩ := blankC (n := n) (tn := tn) (bt := bt) (tn - p) p n (uF (uF s 2 1) 4 (nI p)) (by omega) (by omega) ⟨hT.1, hT.2.1, hT.2.2⟩ rfl
  rw [if_pos h2, show (uF s 2 1).1 5 = nI p from h5, e1, look58]
  have f1 : s1.1 1 = mI tm := by rw [e3 1 (by decide)]; exact h1
  have fT : TxC s1 tn bt := ⟨hT.1, by rw [e3 0 (by decide)]; exact hT.2.1, by rw [e4]; exact hT.2.2⟩
  obtain ⟨s2, g1, g2, g3, g4, g5, g6⟩ := scan45C hn fT f1 e2 hk.2.1
  have l2 : s2.1 2 = 1 := by rw [g5.1 2 (by decide) (by decide) (by decide), e3 2 (by decide)]; rfl
  have lu : uF (uF s2 2 (s.1 2)) 2 1 = s2 := by
    refine Prod.ext (funext fun j => ?_) rfl
    simp only [uF_1]
    by_cases c : j = 2
    · rw [if_pos c, c, l2]
    · rw [if_neg c, if_neg c]
  rw [g1, Option.bind_some]
  refine ⟨uF s2 2 (s.1 2), by rw [lu]; rfl, g2, g3, g4, ⟨fun j a b c => ?_, ?_, ?_, fun j hj => ?_⟩, g6⟩
  · by_cases c2 : j = 2
    · rw [c2]; rfl
    · simp only [uF_1]; rw [if_neg c2, g5.1 j a b c, e3 j b]; simp only [uF_1, b, c2, if_false]
  · show s2.2.1 = s.2.1; rw [g5.2.1, e4]; rfl
  · show s2.2.2.2 = s.2.2.2; rw [g5.2.2.1, e4]; rfl
  · show s2.2.2.1 j = s.2.2.1 j; rw [g5.2.2.2 j hj, e4]; rfl
theorem scanM {n : Nat} (hn : 100000 ≤ n) {s : StT} {tm : Bool} {tn : Nat} {bt : Nat → Nat} (hT : TxM s tn bt) (h9 : s.1 9 = mI tm) {p : Nat} (h4 : s.1 4 = nI p) (hp : p ≤ tn) : ∃ s', f_X12_scan n s = some s' ∧ s'.1 5 = (tk tm tn bt (sk tn bt p)).2.1 ∧ s'.1 6 = nI (sk tn bt p) ∧ s'.1 8 = 1 ∧ ((tk tm tn bt (sk tn bt p)).2.1 ≠ 262 → s'.1 7 = nI (tk tm tn bt (sk tn bt p)).2.2) ∧ AgS s s' := by
  have hl := hT.1
  have hk := sk_bd (tn := tn) (bt := bt) (tn - p) p (by omega)
  unfold f_X12_scan
  obtain ⟨s1, e1, e2, e3, e4⟩ := blankM (n := n) (tn := tn) (bt := bt) (tn - p) p n s (by omega) (by omega) hT h4
  rw [e1]
  have f9 : s1.1 9 = mI tm := by rw [e3 9 (by decide)]; exact h9
  have fT : TxM s1 tn bt := ⟨hT.1, by rw [e3 3 (by decide)]; exact hT.2.1, by rw [e4]; exact hT.2.2⟩
  obtain ⟨s2, g1, g2, g3, g4, g5, g6⟩ := scan80M hn fT f9 e2 hk.2.1
  exact ⟨s2, g1, g2, g3, g4, g5, fun j a b c d e => by rw [g6.1 j a b c d e, e3 j a], by rw [g6.2, e4]⟩
