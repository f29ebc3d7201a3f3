/-- the token that begins where blanks have ended -/
def f_X8_scan_45 (n : Nat) (st : StT) : Option StT := (f_X8_byteAt n st (st.1 4)).bind fun q63 => ((f_X8_isLetter n q63.2 q63.1).bind fun q68 => (if q68.1 = 0 then (f_X8_scanSign n q68.2 q63.1) else (f_X8_scanName n q68.2)))
theorem look58 (n : Nat) (st : StT) : f_X8_look_58 n st = (f_X8_scan_45 n st).bind fun q => some (q.1 3, q) := by
  unfold f_X8_look_58 f_X8_scan_45
  cases f_X8_byteAt n st (st.1 4) with
  | none => rfl
  | some q63 =>
    rw [Option.bind_some, Option.bind_some]
    cases f_X8_isLetter n q63.2 q63.1 with
    | none => rfl
    | some q68 =>
      rw [Option.bind_some, Option.bind_some]
      by_cases c : q68.1 = 0
      · rw [if_pos c, if_pos c]
      · rw [if_neg c, if_neg c]
theorem scan45C {n : Nat} (hn : 100000 ≤ n) {s : StT} {tm : Bool} {tn : Nat} {bt : Nat → Nat} (hT : TxC s tn bt) (h1 : s.1 1 = mI tm) {q : Nat} (h4 : s.1 4 = nI q) (hq : q ≤ tn) : ∃ s', f_X8_scan_45 n s = some s' ∧ s'.1 3 = (tk tm tn bt q).1 ∧ s'.1 4 = nI q ∧ s'.1 5 = nI (q + (tk tm tn bt q).2.2) ∧ AgK s s' ∧ (q < tn → lt8 (bt q) = true → nx tn bt q - q ≤ 6 → s'.2.2.1 0 = Int64.ofNat (pkN (bts bt q (nx tn bt q - q)))) := by
  have hl := hT.1
  have up : ∀ (c x : Int32), AgK s (uF (uF s 3 c) 5 x) := fun c x => ⟨fun j a b d => by simp only [uF_1, a, d, if_false], rfl, rfl, fun _ _ => rfl⟩
  have hby : ∀ i, i < tn → bt i < 256 := fun i hi => (hT.2.2 i hi).2
  unfold f_X8_scan_45
  rw [h4, byteAtC hT (by omega), Option.bind_some]
  simp only []
  unfold tk
  by_cases c : q < tn
  · have hb := hby q c
    simp only [if_pos c]
    rw [isLetterC hb, Option.bind_some]
    simp only []
    by_cases c1 : lt8 (bt q) = true
    · rw [if_neg (show ¬ mI (lt8 (bt q)) = 0 by rw [c1]; decide)]
      simp only [if_pos c1]
      obtain ⟨pk, e1, e2⟩ := scanNameC hn hT c h4
      have hnb := nx_bd (tn := tn) (bt := bt) (tn - q) q (by omega)
      rw [e2]
      refine ⟨_, rfl, ?_⟩
      by_cases c6 : nx tn bt q - q ≤ 6
      · simp only [if_pos c6]
        refine ⟨rfl, h4, by rw [show q + (nx tn bt q - q) = nx tn bt q by omega]; rfl, ⟨fun j a b d => by simp only [uF_1, a, d, if_false, uL_1], rfl, rfl, fun j hj => by simp only [uF_2, uL_221, hj, if_false]⟩, fun _ _ _ => ?_⟩
        simp only [uF_2, uL_221, if_true]
        exact e1 c6
      · simp only [if_neg c6]
        exact ⟨rfl, h4, rfl, ⟨fun j a b d => by simp only [uF_1, a, d, if_false, uL_1], rfl, rfl, fun j hj => by simp only [uF_2, uL_221, hj, if_false]⟩, fun _ _ h => absurd h (by first | exact c6 | omega)⟩
    · have c1' : lt8 (bt q) = false := by simpa using c1
      rw [if_pos (show mI (lt8 (bt q)) = 0 by rw [c1']; rfl)]
      unfold f_X8_scanSign
      rw [if_pos (show (0 : Int32) ≤ nI (bt q) from nI_pos' (by omega))]
      simp only [if_neg c1]
      have sg := scan158C hn h1 h4 hb
      have n1 := byteAtC (n := n) hT (i := q + 1) (by omega)
      have n2 := byteAtC (n := n) hT (i := q + 2) (by omega)
      have a1 : nI q + (1 : Int32) = nI (q + 1) := nI_add q 1
      have a2 : nI q + (2 : Int32) = nI (q + 2) := nI_add q 2
      have b45 : nI (bt q) = (45 : Int32) ↔ bt q = 45 := ⟨fun e => nI_inj (b := 45) (by omega) (by omega) e, fun e => by rw [e]; rfl⟩
      have b60 : nI (bt q) = (60 : Int32) ↔ bt q = 60 := ⟨fun e => nI_inj (b := 60) (by omega) (by omega) e, fun e => by rw [e]; rfl⟩
      have i62 : (if q + 1 < tn then nI (bt (q + 1)) else (-1 : Int32)) = (62 : Int32) ↔ (q + 1 < tn ∧ bt (q + 1) = 62) := byteIs (c := 62) (hby _) (by decide)
      have i45 : (if q + 1 < tn then nI (bt (q + 1)) else (-1 : Int32)) = (45 : Int32) ↔ (q + 1 < tn ∧ bt (q + 1) = 45) := byteIs (c := 45) (hby _) (by decide)
      have j62 : (if q + 2 < tn then nI (bt (q + 2)) else (-1 : Int32)) = (62 : Int32) ↔ (q + 2 < tn ∧ bt (q + 2) = 62) := byteIs (c := 62) (hby _) (by decide)
      have t2 := tokC n s h4 62 2
      have t3 := tokC n s h4 61 3
      rw [show nI 2 = (2 : Int32) from rfl] at t2
      rw [show nI 3 = (3 : Int32) from rfl] at t3
      have plain : ∀ r : Option StT, r = f_X8_scanSign_90 n s (nI (bt q)) → ¬ (bt q = 45 ∧ q + 1 < tn ∧ bt (q + 1) = 62) → ¬ (bt q = 60 ∧ (q + 1 < tn ∧ bt (q + 1) = 45) ∧ q + 2 < tn ∧ bt (q + 2) = 62) → ∃ s', r = some s' ∧ s'.1 3 = (if bt q = 45 ∧ q + 1 < tn ∧ bt (q + 1) = 62 then ((62 : Int32), (260 : Int32), 2) else if bt q = 60 ∧ (q + 1 < tn ∧ bt (q + 1) = 45) ∧ q + 2 < tn ∧ bt (q + 2) = 62 then (61, 261, 3) else if sg8 tm (bt q) = true then (nI (bt q), nI (bt q), 1) else (-1, 262, 0)).1 ∧ s'.1 4 = nI q ∧ s'.1 5 = nI (q + (if bt q = 45 ∧ q + 1 < tn ∧ bt (q + 1) = 62 then ((62 : Int32), (260 : Int32), 2) else if bt q = 60 ∧ (q + 1 < tn ∧ bt (q + 1) = 45) ∧ q + 2 < tn ∧ bt (q + 2) = 62 then (61, 261, 3) else if sg8 tm (bt q) = true then (nI (bt q), nI (bt q), 1) else (-1, 262, 0)).2.2) ∧ AgK s s' ∧ (q < tn → lt8 (bt q) = true → nx tn bt q - q ≤ 6 → s'.2.2.1 0 = Int64.ofNat (pkN (bts bt q (nx tn bt q - q)))) := by
        intro r hr k1 k2
        rw [hr, sg, if_neg k1, if_neg k2]
        refine ⟨_, rfl, ?_⟩
        by_cases cs : sg8 tm (bt q) = true
        · simp only [if_pos cs]
          exact ⟨rfl, h4, rfl, up _ _, fun _ h => absurd h c1⟩
        · simp only [if_neg cs]
          exact ⟨rfl, h4, rfl, up _ _, fun _ h => absurd h c1⟩
      by_cases c45 : bt q = 45
      · rw [if_pos (b45.mpr c45)]
        simp only [h4, a1]
        rw [n1, Option.bind_some]
        simp only []
        by_cases c62 : q + 1 < tn ∧ bt (q + 1) = 62
        · rw [if_pos (i62.mpr c62), t2, Option.bind_some]
          simp only [if_pos (show bt q = 45 ∧ q + 1 < tn ∧ bt (q + 1) = 62 from ⟨c45, c62⟩)]
          exact ⟨_, rfl, rfl, h4, rfl, up _ _, fun _ h => absurd h c1⟩
        · rw [if_neg (fun e => c62 (i62.mp e))]
          refine plain _ ?_ (fun e => c62 e.2) (fun e => by omega)
          unfold f_X8_scanSign_44
          rw [if_neg (fun e => by have := b60.mp e; omega)]
      · rw [if_neg (fun e => c45 (b45.mp e))]
        unfold f_X8_scanSign_44
        by_cases c60 : bt q = 60
        · rw [if_pos (b60.mpr c60)]
          simp only [h4, a1]
          rw [n1, Option.bind_some]
          simp only []
          by_cases d45 : q + 1 < tn ∧ bt (q + 1) = 45
          · rw [if_pos (i45.mpr d45)]
            simp only [h4, a2]
            rw [n2, Option.bind_some]
            simp only []
            by_cases d62 : q + 2 < tn ∧ bt (q + 2) = 62
            · rw [if_pos (j62.mpr d62), t3, Option.bind_some]
              simp only [if_neg (show ¬ (bt q = 45 ∧ q + 1 < tn ∧ bt (q + 1) = 62) from fun e => c45 e.1), if_pos (show bt q = 60 ∧ (q + 1 < tn ∧ bt (q + 1) = 45) ∧ q + 2 < tn ∧ bt (q + 2) = 62 from ⟨c60, d45, d62⟩)]
              exact ⟨_, rfl, rfl, h4, rfl, up _ _, fun _ h => absurd h c1⟩
            · rw [if_neg (fun e => d62 (j62.mp e))]
              exact plain _ rfl (fun e => c45 e.1) (fun e => d62 e.2.2)
          · rw [if_neg (fun e => d45 (i45.mp e))]
            exact plain _ rfl (fun e => c45 e.1) (fun e => d45 e.2.1)
        · rw [if_neg (fun e => c60 (b60.mp e))]
          exact plain _ rfl (fun e => c45 e.1) (fun e => c60 e.1)
  · simp only [if_neg c]
    have t0 := tokC n s h4 0 0
    rw [nI_0] at t0
    rw [isLetter_m1, Option.bind_some]
    simp only []
    rw [if_pos trivial]
    unfold f_X8_scanSign
    rw [if_neg (by decide), t0, Option.bind_some]
    exact ⟨_, rfl, rfl, h4, rfl, up _ _, fun h => absurd h c⟩
