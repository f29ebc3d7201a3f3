theorem scan80M {n : Nat} (hn : 100000 ≤ n) {s : StT} {tm : Bool} {tn : Nat} {bt : Nat → Nat} (hT : TxM s tn bt) (h9 : s.1 9 = mI tm) {q : Nat} (h4 : s.1 4 = nI q) (hq : q ≤ tn) : ∃ s', f_X12_scan_80 n s = some s' ∧ s'.1 5 = (tk tm tn bt q).2.1 ∧ s'.1 6 = nI q ∧ s'.1 8 = 1 ∧ ((tk tm tn bt q).2.1 ≠ 262 → s'.1 7 = nI (tk tm tn bt q).2.2) ∧ AgS s s' := by
  have hl := hT.1
  have hby : ∀ i, i < tn → bt i < 256 := fun i hi => (hT.2.2 i hi).2
  unfold f_X12_scan_80
  have hs1 : ∃ s1 : StT, s1 = uF (uF (uF s 6 (s.1 4)) 7 (1 : Int32)) 8 (1 : Int32) := ⟨_, rfl⟩
  obtain ⟨s1, e⟩ := hs1
  rw [← e]
  have f4 : s1.1 4 = nI q := by rw [e]; exact h4
  have f6 : s1.1 6 = nI q := by rw [e]; exact h4
  have f7 : s1.1 7 = nI 1 := by rw [e]; rfl
  have f8 : s1.1 8 = 1 := by rw [e]; rfl
  have f9 : s1.1 9 = mI tm := by rw [e]; exact h9
  have fT : TxM s1 tn bt := by rw [e]; exact ⟨hT.1, hT.2.1, hT.2.2⟩
  have fA : AgS s s1 := by
    rw [e]
    exact ⟨fun j a b c d g => by simp only [uF_1, c, d, g, if_false], rfl⟩
  clear e
  have up5 : ∀ x : Int32, AgS s (uF s1 5 x) := fun x => ⟨fun j a b c d g => by simp only [uF_1, b, if_false]; exact fA.1 j a b c d g, fA.2⟩
  have up57 : ∀ x y : Int32, AgS s (uF (uF s1 5 x) 7 y) := fun x y => ⟨fun j a b c d g => by simp only [uF_1, b, d, if_false]; exact fA.1 j a b c d g, fA.2⟩
  rw [f4, signAtM fT (by omega), Option.bind_some]
  simp only []
  rw [f4, fT.2.1]
  unfold tk
  by_cases c : q < tn
  · have hb := hby q c
    simp only [if_pos c]
    rw [if_neg (show ¬ nI q = nI tn from fun e => by have := nI_inj (by omega) (by omega) e; omega), isSmallM hb, Option.bind_some]
    simp only []
    by_cases c1 : lt8 (bt q) = true
    · rw [if_neg (show ¬ mI (lt8 (bt q)) = 0 by rw [c1]; decide)]
      simp only [if_pos c1]
      obtain ⟨s', e1, e2, e3, e4, e5⟩ := scanNameM (n := n) fT f4 f6 (tn - q - 1) 1 n s1 (by omega) (by omega) (fun _ _ => rfl) rfl f7
      have hnx : nx tn bt q = nx tn bt (q + 1) := by
        rw [nx_e (p := q), if_pos (show q < tn ∧ nc8 (bt q) = true from ⟨c, by unfold nc8; rw [c1]; rfl⟩)]
      rw [← hnx] at e2 e3
      refine ⟨s', e1, ?_⟩
      have rest : s'.1 6 = nI q ∧ s'.1 8 = 1 ∧ AgS s s' := ⟨by rw [e4 6 (by decide) (by decide)]; exact f6, by rw [e4 8 (by decide) (by decide)]; exact f8, fun j a b c d g => by rw [e4 j b d]; exact fA.1 j a b c d g, by rw [e5]; exact fA.2⟩
      by_cases c6 : nx tn bt q - q ≤ 6
      · rw [if_pos c6] at e3
        simp only [if_pos c6]
        exact ⟨e3, rest.1, rest.2.1, fun _ => e2, rest.2.2⟩
      · rw [if_neg c6] at e3
        simp only [if_neg c6]
        exact ⟨e3, rest.1, rest.2.1, fun h => absurd rfl h, rest.2.2⟩
    · have c1' : lt8 (bt q) = false := by simpa using c1
      rw [if_pos (show mI (lt8 (bt q)) = 0 by rw [c1']; rfl)]
      simp only [if_neg c1]
      have sg := scan348M (n := n) f9 hb
      have n1 := signAtM (n := n) fT (i := q + 1) (by omega)
      have n2 := signAtM (n := n) fT (i := q + 2) (by omega)
      have a1 : nI q + (1 : Int32) = nI (q + 1) := nI_add q 1
      have a2 : nI q + (2 : Int32) = nI (q + 2) := nI_add q 2
      have b45 : sb (bt q) = (45 : Int32) ↔ bt q = 45 := sb_low _ hb 45 (by decide)
      have b60 : sb (bt q) = (60 : Int32) ↔ bt q = 60 := sb_low _ hb 60 (by decide)
      have i62 : (if q + 1 < tn then sb (bt (q + 1)) else (-1 : Int32)) = (62 : Int32) ↔ (q + 1 < tn ∧ bt (q + 1) = 62) := signIs (c := 62) (hby _) (by decide)
      have i45 : (if q + 1 < tn then sb (bt (q + 1)) else (-1 : Int32)) = (45 : Int32) ↔ (q + 1 < tn ∧ bt (q + 1) = 45) := signIs (c := 45) (hby _) (by decide)
      have j62 : (if q + 2 < tn then sb (bt (q + 2)) else (-1 : Int32)) = (62 : Int32) ↔ (q + 2 < tn ∧ bt (q + 2) = 62) := signIs (c := 62) (hby _) (by decide)
      have plain : ∀ r : Option StT, r = f_X12_scan_348 n s1 (sb (bt q)) → ¬ (bt q = 45 ∧ q + 1 < tn ∧ bt (q + 1) = 62) → ¬ (bt q = 60 ∧ (q + 1 < tn ∧ bt (q + 1) = 45) ∧ q + 2 < tn ∧ bt (q + 2) = 62) → ∃ s', r = some s' ∧ s'.1 5 = (if bt q = 45 ∧ q + 1 < tn ∧ bt (q + 1) = 62 then ((62 : Int32), (260 : Int32), 2) else if bt q = 60 ∧ (q + 1 < tn ∧ bt (q + 1) = 45) ∧ q + 2 < tn ∧ bt (q + 2) = 62 then (61, 261, 3) else if sg8 tm (bt q) = true then (nI (bt q), nI (bt q), 1) else (-1, 262, 0)).2.1 ∧ s'.1 6 = nI q ∧ s'.1 8 = 1 ∧ ((if bt q = 45 ∧ q + 1 < tn ∧ bt (q + 1) = 62 then ((62 : Int32), (260 : Int32), 2) else if bt q = 60 ∧ (q + 1 < tn ∧ bt (q + 1) = 45) ∧ q + 2 < tn ∧ bt (q + 2) = 62 then (61, 261, 3) else if sg8 tm (bt q) = true then (nI (bt q), nI (bt q), 1) else (-1, 262, 0)).2.1 ≠ 262 → s'.1 7 = nI (if bt q = 45 ∧ q + 1 < tn ∧ bt (q + 1) = 62 then ((62 : Int32), (260 : Int32), 2) else if bt q = 60 ∧ (q + 1 < tn ∧ bt (q + 1) = 45) ∧ q + 2 < tn ∧ bt (q + 2) = 62 then (61, 261, 3) else if sg8 tm (bt q) = true then (nI (bt q), nI (bt q), 1) else (-1, 262, 0)).2.2) ∧ AgS s s' := by
        intro r hr k1 k2
        rw [hr, sg, if_neg k1, if_neg k2]
        refine ⟨_, rfl, ?_⟩
        by_cases cs : sg8 tm (bt q) = true
        · simp only [if_pos cs]
          exact ⟨rfl, f6, f8, fun _ => f7, up5 _⟩
        · simp only [if_neg cs]
          exact ⟨rfl, f6, f8, fun h => absurd rfl h, up5 _⟩
      by_cases c45 : bt q = 45
      · rw [if_pos (b45.mpr c45)]
        simp only [f4, a1]
        rw [n1, Option.bind_some]
        simp only []
        by_cases c62 : q + 1 < tn ∧ bt (q + 1) = 62
        · rw [if_pos (i62.mpr c62)]
          simp only [if_pos (show bt q = 45 ∧ q + 1 < tn ∧ bt (q + 1) = 62 from ⟨c45, c62⟩)]
          exact ⟨_, rfl, rfl, f6, f8, fun _ => rfl, up57 _ _⟩
        · rw [if_neg (fun e => c62 (i62.mp e))]
          refine plain _ ?_ (fun e => c62 e.2) (fun e => by omega)
          unfold f_X12_scan_297
          rw [if_neg (fun e => by have := b60.mp e; omega)]
      · rw [if_neg (fun e => c45 (b45.mp e))]
        unfold f_X12_scan_297
        by_cases c60 : bt q = 60
        · rw [if_pos (b60.mpr c60)]
          simp only [f4, a1]
          rw [n1, Option.bind_some]
          simp only []
          by_cases d45 : q + 1 < tn ∧ bt (q + 1) = 45
          · rw [if_pos (i45.mpr d45)]
            simp only [f4, a2]
            rw [n2, Option.bind_some]
            simp only []
            by_cases d62 : q + 2 < tn ∧ bt (q + 2) = 62
            · rw [if_pos (j62.mpr d62)]
              simp only [if_neg (show ¬ (bt q = 45 ∧ q + 1 < tn ∧ bt (q + 1) = 62) from fun e => c45 e.1), if_pos (show bt q = 60 ∧ (q + 1 < tn ∧ bt (q + 1) = 45) ∧ q + 2 < tn ∧ bt (q + 2) = 62 from ⟨c60, d45, d62⟩)]
              exact ⟨_, rfl, rfl, f6, f8, fun _ => rfl, up57 _ _⟩
            · rw [if_neg (fun e => d62 (j62.mp e))]
              exact plain _ rfl (fun e => c45 e.1) (fun e => d62 e.2.2)
          · rw [if_neg (fun e => d45 (i45.mp e))]
            exact plain _ rfl (fun e => c45 e.1) (fun e => d45 e.2.1)
        · rw [if_neg (fun e => c60 (b60.mp e))]
          exact plain _ rfl (fun e => c45 e.1) (fun e => c60 e.1)
  · simp only [if_neg c]
    rw [if_pos (show nI q = nI tn by rw [show q = tn by omega])]
    exact ⟨_, rfl, rfl, f6, f8, fun _ => rfl, up57 _ _⟩
