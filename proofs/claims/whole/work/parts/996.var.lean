/-! ===== a variable: found by its name, or made ===== -/
theorem bts_get (bt : Nat → Nat) (q : Nat) : ∀ (k i : Nat), i < k → (bts bt q k)[i]? = some (bt (q + i)) := by
  intro k
  induction k with
  | zero => intro i hi; omega
  | succ k ih =>
    intro i hi
    rw [bts]
    by_cases c : i < k
    · rw [List.getElem?_append_left (by rw [bts_len]; exact c)]; exact ih i c
    · have e : i = k := by omega
      rw [List.getElem?_append_right (by rw [bts_len]; omega), bts_len, e, Nat.sub_self]; rfl
theorem WFt.addV {t : FT} {vn : Nat} (h : WFt t vn) (hf : t.1 < 2000) (hv : vn < 24) : WFt (addT t 2 vn 0) (vn + 1) := by
  obtain ⟨h1, h2, ⟨a1, a2, a3⟩, ⟨b1, b2, b3⟩, h5, h6, h7⟩ := id h
  have hno : ∀ g, g < t.1 → t.2.1 g = 2 → t.2.2.1 g = vn → False := fun g hg e1 e2 => by
    by_cases c0 : g = 0
    · rw [c0, a1] at e1; exact absurd e1 (by decide)
    · by_cases c1 : g = 1
      · rw [c1, b1] at e1; exact absurd e1 (by decide)
      · rcases h6 g (by omega) hg with z | z <;> omega
  refine ⟨by show 2 ≤ t.1 + 1; omega, by show t.1 + 1 ≤ 2000; omega, ?_, ?_, by omega, ?_, ?_⟩
  · simp [addT, show (0 : Nat) ≠ t.1 by omega, a1, a2, a3]
  · simp [addT, show (1 : Nat) ≠ t.1 by omega, b1, b2, b3]
  · intro f hf2 hf3
    have hf3 : f < t.1 + 1 := hf3
    by_cases c : f = t.1
    · refine Or.inl ?_
      simp [addT, c]
    · have := h6 f hf2 (by omega)
      simp only [addT, c, if_false]
      omega
  · intro f g hf1 hg1 e1 e2 e3
    have hf1 : f < t.1 + 1 := hf1
    have hg1 : g < t.1 + 1 := hg1
    by_cases c : f = t.1
    · by_cases d : g = t.1
      · omega
      · simp [addT, c, d] at e1 e2 e3
        exact absurd (hno g (by omega) e1.symm e2.symm) id
    · by_cases d : g = t.1
      · simp [addT, c, d] at e1 e2 e3
        exact absurd (hno f (by omega) e1 e2) id
      · simp [addT, c, d] at e1 e2 e3
        exact h7 f g (by omega) (by omega) e1 e2 e3
/-- the formula of a variable is found in the class as it is -/
theorem findVar {n : Nat} (hn : 100000 ≤ n) {s : StT} {t : FT} {vn : Nat} (hC : CFt s t) (hw : WFt t vn) {v f : Nat} (hv : v < vn) (hf : f < t.1) (h1 : t.2.1 f = 2) (h2 : t.2.2.1 f = v) : f_X1_find_F0 n s 2 (nI v) 0 = some (nI f, s) := by
  have hvn := hw.2.2.2.2.1
  obtain ⟨r, er, hr⟩ := findF0 hn hC hw.fit (k := 2) (a := v) (b := 0) (by omega) (by omega) (by omega)
  have h3 : t.2.2.2 f = 0 := by
    rcases hw.2.2.2.2.2.1 f (by
      by_cases c0 : f = 0
      · rw [c0, hw.2.2.1.1] at h1; exact absurd h1 (by decide)
      · by_cases c1 : f = 1
        · rw [c1, hw.2.2.2.1.1] at h1; exact absurd h1 (by decide)
        · omega) hf with z | z <;> omega
  rw [show (2 : Int32) = nI 2 from rfl, show (0 : Int32) = nI 0 from rfl, er]
  rcases hr with ⟨g, hg, hi, hr⟩ | ⟨hno, _⟩
  · have := hw.2.2.2.2.2.2 g f hg hf (by rw [hi.1, h1]) (by rw [hi.2.1, h2]) (by rw [hi.2.2, h3])
    rw [hr, this]
  · exact absurd ⟨h1, h2, h3⟩ (hno f hf)
/-- the comparing of one name in the reference -/
theorem cmp_loop {n : Nat} {s : StT} {tn : Nat} {bt : Nat → Nat} (hT : TxM s tn bt) {q K v : Nat} {l : List Nat} (k2 : StT → Int32 → Option (Int32 × StT)) (h6 : s.1 6 = nI q) (h7 : s.1 7 = nI K) (hK : q + K ≤ tn) (hv : v < 24) (hK6 : K ≤ 6) (hl : l.length = K) (hlb : ∀ b, b ∈ l → 0 < b ∧ b < 128) (hm : ∀ i b, l[i]? = some b → s.2.1 3 (6 * v + i) = nI b) : ∀ (d i fu : Nat), i + d = K → d < fu → (∀ j, j < i → l[j]? = (bts bt q K)[j]?) → f_X12_variableOf_31 n k2 fu s (nI v) 1 (nI i) = f_X12_variableOf_80 n k2 s (nI v) (mI (decide (l = bts bt q K))) := by
  have hl3 := hT.1
  intro d
  induction d with
  | zero =>
    intro i fu hi hfu hj
    obtain ⟨fu, rfl⟩ : ∃ q, fu = q + 1 := ⟨fu - 1, by omega⟩
    rw [f_X12_variableOf_31, h7, if_pos ((nI_leI (by omega) (by omega)).mpr (by omega))]
    have e : l = bts bt q K := by
      apply List.ext_getElem?
      intro j
      by_cases c : j < K
      · exact hj j (by omega)
      · rw [List.getElem?_eq_none (by omega), List.getElem?_eq_none (by rw [bts_len]; omega)]
    rw [decide_eq_true e]; rfl
  | succ d ih =>
    intro i fu hi hfu hj
    obtain ⟨fu, rfl⟩ : ∃ q, fu = q + 1 := ⟨fu - 1, by omega⟩
    obtain ⟨b, hb⟩ : ∃ b, l[i]? = some b := ⟨l[i], List.getElem?_eq_getElem (by omega)⟩
    have hbb := hlb b (List.mem_of_getElem? hb)
    have htx := hT.2.2 (q + i) (by omega)
    rw [f_X12_variableOf_31, h7, if_neg (fun e => absurd ((nI_leI (by omega) (by omega)).mp e) (by omega)), if_neg (show ¬ (1 : Int32) = 0 by decide), six v hv, nI_add, h6, nI_add, inB_nI (show 6 * v + i < 144 by omega) (by omega), inB_nI (show q + i < 3000 by omega) (by omega), nI_cl (by omega), nI_cl (by omega), hm i b hb, htx.1]
    simp only [if_true]
    by_cases c : bt (q + i) = b
    · rw [if_pos ((sb_low _ htx.2 b hbb.2).mpr c).symm, nI_1]
      refine ih (i + 1) fu (by omega) (by omega) (fun j hj2 => ?_)
      by_cases c2 : j < i
      · exact hj j c2
      · rw [show j = i by omega, hb, bts_get bt q K i (by omega), c]
    · rw [if_neg (fun e => c ((sb_low _ htx.2 b hbb.2).mp e.symm)), nI_1]
      obtain ⟨fu, rfl⟩ : ∃ q, fu = q + 1 := ⟨fu - 1, by omega⟩
      have e : ¬ l = bts bt q K := fun e => by
        rw [e, bts_get bt q K i (by omega)] at hb
        exact c (Option.some.inj hb)
      rw [f_X12_variableOf_31, h7, decide_eq_false e, if_pos (rfl : (0 : Int32) = 0), ite_self]
      rfl
/-- what the reference does when no variable has the name -/
def vEnd (n : Nat) (st : StT) : Option (Int32 × StT) := if (st.1 2) = (24 : Int32) then ((f_X12_fail n st (4 : Int32) (st.1 6)).bind fun q112 => (some ((-1 : Int32), q112.2))) else (if (st.1 0) = (2000 : Int32) then ((f_X12_fail n st (5 : Int32) (st.1 6)).bind fun q134 => (some ((-1 : Int32), q134.2))) else (f_X12_variableOf_142 n n st (0 : Int32)))
theorem find_loop {n : Nat} (hn : 100000 ≤ n) {D : HD} {sC sM : StT} (hH : HS D sC sM) {tn : Nat} {bt : Nat → Nat} (hT : TxM sM tn bt) {q K : Nat} (h6 : sM.1 6 = nI q) (h7 : sM.1 7 = nI K) (hK : q + K ≤ tn) (hK1 : 1 ≤ K) (hK6 : K ≤ 6) (hlb : ∀ b, b ∈ bts bt q K → 0 < b ∧ b < 128) : ∀ (d v fu : Nat), v + d = D.2.1 → d < fu →
    (∃ f, f < D.1.1 ∧ f_X1_named_F0_2 n fu sC (Int64.ofNat (pkN (bts bt q K))) (nI v) = some (nI f, sC) ∧ f_X12_variableOf_2 n fu sM (nI v) = some (nI f, sM))
    ∨ (f_X1_named_F0_2 n fu sC (Int64.ofNat (pkN (bts bt q K))) (nI v) = some (-1, sC) ∧ f_X12_variableOf_2 n fu sM (nI v) = vEnd n sM) := by
  obtain ⟨hC, hM, hw, h7c, hV, hNC, hNM, hNW⟩ := hH
  have hvn := hw.2.2.2.2.1
  intro d
  induction d with
  | zero =>
    intro v fu hv hfu
    obtain ⟨fu, rfl⟩ : ∃ q, fu = q + 1 := ⟨fu - 1, by omega⟩
    right
    rw [f_X1_named_F0_2, f_X12_variableOf_2, h7c, hV.1, if_pos ((nI_leI (by omega) (by omega)).mpr (by omega)), if_pos ((nI_leI (by omega) (by omega)).mpr (by omega))]
    exact ⟨rfl, by unfold vEnd; rw [hV.1]⟩
  | succ d ih =>
    intro v fu hv hfu
    obtain ⟨fu, rfl⟩ : ∃ q, fu = q + 1 := ⟨fu - 1, by omega⟩
    have hw1 := hNW v (by omega)
    have hm1 := hNM v (by omega)
    have hv1 := hV.2 v (by omega)
    have hnle : ¬ nI D.2.1 ≤ nI v := fun e => absurd ((nI_leI (by omega) (by omega)).mp e) (by omega)
    have hpk : Int64.ofNat (pkN (D.2.2.2 v)) = Int64.ofNat (pkN (bts bt q K)) ↔ D.2.2.2 v = bts bt q K := pk_is hw1.2.1 hw1.2.2 (by rw [bts_len]; exact hK6) hlb rfl
    rw [f_X1_named_F0_2, f_X12_variableOf_2, h7c, hV.1, if_neg hnle, if_neg hnle, if_neg (show ¬ (24 : Int32) ≤ nI v from fun e => absurd ((nI_leI (a := 24) (by omega) (by omega)).mp e) (by omega)), inB_nI (show v < 24 by omega) (by omega), nI_cl (by omega), hNC v (by omega), hm1.1, h7]
    simp only [if_true]
    by_cases c : D.2.2.2 v = bts bt q K
    · left
      have hlen : (D.2.2.2 v).length = K := by rw [c, bts_len]
      refine ⟨D.2.2.1 v, hv1.2.1, ?_, ?_⟩
      · rw [if_pos (lgc.mpr (hpk.mpr c)), findVar hn hC hw (v := v) (by omega) hv1.2.1 hv1.2.2.1 hv1.2.2.2, Option.bind_some]
      · rw [if_pos (by rw [hlen]), show (0 : Int32) = nI 0 from rfl, cmp_loop hT _ h6 h7 hK (by omega) hK6 hlen hw1.2.2 hm1.2 K 0 n (by omega) (by omega) (fun j hj => by omega), decide_eq_true c, f_X12_variableOf_80, if_neg (show ¬ mI true = 0 by decide), inB_nI (show v < 24 by omega) (by omega), nI_cl (by omega), hv1.1]
        rfl
    · rw [if_neg (fun e => c (hpk.mp (lgc.mp e))), nI_1]
      have e : (if nI (D.2.2.2 v).length = nI K then f_X12_variableOf_31 n (f_X12_variableOf_2 n fu) n sM (nI v) 1 0 else f_X12_variableOf_31 n (f_X12_variableOf_2 n fu) n sM (nI v) 0 0) = f_X12_variableOf_2 n fu sM (nI (v + 1)) := by
        by_cases cl : (D.2.2.2 v).length = K
        · rw [if_pos (by rw [cl]), show (0 : Int32) = nI 0 from rfl, cmp_loop hT _ h6 h7 hK (by omega) hK6 cl hw1.2.2 hm1.2 K 0 n (by omega) (by omega) (fun j hj => by omega), decide_eq_false c, f_X12_variableOf_80, if_pos (show mI false = 0 by decide), nI_1]
        · rw [if_neg (fun e => cl (nI_inj (by omega) (by omega) e))]
          obtain ⟨n', hn'⟩ : ∃ q, n = q + 1 := ⟨n - 1, by omega⟩
          have : f_X12_variableOf_31 n (f_X12_variableOf_2 n fu) (n' + 1) sM (nI v) 0 0 = f_X12_variableOf_2 n fu sM (nI (v + 1)) := by
            rw [f_X12_variableOf_31, if_pos (rfl : (0 : Int32) = 0), ite_self, f_X12_variableOf_80, if_pos (rfl : (0 : Int32) = 0), nI_1]
          rw [← hn'] at this
          exact this
      rw [e]
      exact ih (v + 1) fu (by omega) (by omega)
