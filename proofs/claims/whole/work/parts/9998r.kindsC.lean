/-! ===== proof: every kind of term, in the class ===== -/
def ENV (D : HD) (sC : StT) (N : Nat) : Prop := CFt sC D.1 ∧ WFt D.1 D.2.1 ∧ sC.1 7 = nI D.2.1 ∧ NmC sC D.2.1 D.2.2.2 ∧ NmW D.2.1 D.2.2.2 ∧ sC.1 16 = nI N ∧ N ≤ 30027
theorem GoesT.weak {n : Nat} {sC s : StT} {r : Option StT} {D : List Nat} {top dp : Nat} {X X' : Nat → Prop} (g : GoesT n sC s r D top dp X) (h : ∀ x, x < 40000 → X' x → X x) : GoesT n sC s r D top dp X' := by
  rcases g with ⟨g1, s', fu', tu', g2, g3, g4, g5, g6, g7, g8, g9⟩ | ⟨g1, s', g2, g3, g4, g5⟩
  · exact Or.inl ⟨g1, s', fu', tu', g2, g3, g4, g5, g6, g7, g8, fun x a b => g9 x a (h x a b)⟩
  · exact Or.inr ⟨g1, s', g2, g3, g4, fun x a b => g5 x a (h x a b)⟩
theorem NB_sub {sC : StT} {c c' k x N : Nat} (hN : N ≤ 30027) (hc : c < N) (hx : x < 40000) (h : NBx sC c x) (hc' : c' < c) (hkk : sC.2.1 16 c = nI k) (hk : (k < 128 ∧ k ≠ 76) ∨ sC.2.1 17 c = nI c') : NBx sC c' x := by
  rcases h with h | ⟨a, b, c1, d, e⟩
  · exact Or.inl (by omega)
  · rcases hk with hk | hk
    · rw [hkk] at a
      exact absurd (nI_inj (b := 76) (by omega) (by omega) a) hk.2
    · rw [hk] at d
      have := nI_inj (by omega) (by omega) d
      exact Or.inl (by omega)
theorem leafT {n N : Nat} {D : HD} {sC : StT} {c k n0 dp : Nat} {S NU : Nat → Nat} {E : List Nat} (env : ENV D sC N) (hc : c < N) (hk : k ∈ [84, 104]) (hkk : sC.2.1 16 c = nI k) (hE : 1 ≤ E.length) (hl : ∀ (s1 : StT) (B : List Nat), AgTC sC s1 → PgX s1 B → (∀ z, z < n0 → S z < 40000 → s1.2.1 17 (S z) = nI (NU z)) → (∀ z, z < n0 → NU z ≤ 8020) → ∃ s2, f_X10_putLeaf_24 n s1 (nI k) (nI c) = some s2 ∧ PgX s2 (B ++ E) ∧ AgO s1 s2) : CCt n sC c n0 S NU dp E := by
  obtain ⟨hC, hw, h7, hNm, hNW, h16, hN⟩ := env
  have hkd : k ∈ KDS := (show ∀ k, k ∈ [84, 104] → k ∈ KDS by decide) k hk
  have hp0 : prtN k = 0 := (show ∀ k, k ∈ [84, 104] → prtN k = 0 by decide) k hk
  intro top turn fu s B hA hP hB htu hfu ht hpt h15 hnum hd hNU
  obtain ⟨fu, rfl⟩ := Nat.exists_eq_succ_of_ne_zero (show fu ≠ 0 by omega)
  obtain ⟨s1, a1, a2, a3, a4, a5, a6, a7⟩ := pt_un (n := n) (fu := fu) (turn := turn) (top := top) (b := 0) (by rw [hA.1 16 (by decide) (by decide)]; exact h16) hN hc hP hB (by omega) (by omega) (by rw [Nat.add_zero]; exact hpt) (by omega) hkd (by rw [hA.a (by decide)]; exact hkk) _ rfl
  obtain ⟨s2, b1, b2, b3⟩ := hl s1 B (hA.tr a2) a3 (fun z x y => by rw [a4]; exact hnum z x y) (fun z hz => by have := hNU z hz; omega)
  have eR : f_X10_putTerm_24_13 n (fu + 1) s (nI top) (nI turn) = f_X10_putTerm_24_13 n fu s2 (nI top - 1) (nI (turn + 1)) := by
    rw [a1]
    unfold f_X10_putTerm_24_104
    rw [prtE hkd, Option.bind_some]
    simp only []
    rw [hp0, if_pos (show nI 0 = (0 : Int32) from rfl), b1, Option.bind_some, nI_1, Int32.sub_eq_add_neg]
  have A3 := (hA.tr a2).tr b3.toT
  have x17 : s2.2.1 17 = s.2.1 17 := by rw [b3.2.1 17 (by decide), a4]
  rw [eR]
  have hlen : (B ++ E).length = B.length + E.length := len_app
  rcases b2 with ⟨c1, c2⟩ | ⟨c1, c2⟩
  · refine Or.inl ⟨c1, s2, fu, turn + 1, rfl, c2, by omega, by omega, A3, ?_, fun i hi => ?_, fun x _ _ => by rw [x17]⟩
    · rw [b3.1 15 (by decide), a5, h15]; rfl
    · rw [b3.2.1 15 (by decide), a7 i (by omega)]
  · obtain ⟨fu, rfl⟩ := Nat.exists_eq_succ_of_ne_zero (show fu ≠ 0 by omega)
    exact Or.inr ⟨c1, s2, pt_stop c2, c2, A3, fun x _ _ => by rw [x17]⟩
theorem CC_unit {n N : Nat} {D : HD} {sC : StT} {c n0 dp : Nat} {S NU : Nat → Nat} (env : ENV D sC N) (hc : c < N) (hkk : sC.2.1 16 c = 84) : CCt n sC c n0 S NU dp [84] := by
  refine leafT (k := 84) env hc (by decide) hkk (Nat.le_refl _) (fun s1 B hA hP _ _ => ?_)
  obtain ⟨s2, a, b, d⟩ := putX (n := n) (b := 84) hP (by omega)
  refine ⟨s2, ?_, b, d⟩
  unfold f_X10_putLeaf_24
  rw [a, Option.bind_some, if_neg (by decide)]
theorem CC_hyp {n N : Nat} (hn : 100000 ≤ n) {D : HD} {sC : StT} {c n0 k dp : Nat} {S NU : Nat → Nat} (env : ENV D sC N) (hc : c < N) (hkk : sC.2.1 16 c = 104) (hk : k < n0) (hS : c = S k) : CCt n sC c n0 S NU dp ([104] ++ dgP (NU k) 9) := by
  have env0 := env
  obtain ⟨hC, hw, h7, hNm, hNW, h16, hN⟩ := env0
  refine leafT (k := 104) env hc (by decide) hkk (by simp) (fun s1 B hA hP hnum hNU => ?_)
  obtain ⟨s2, a1, a2, a3⟩ := putX (n := n) (b := 104) hP (by omega)
  obtain ⟨s3, b1, b2, b3⟩ := putLX (n := n) (dgP (NU k) 9) s2 _ a2 (dgP_ok _ _).2
  refine ⟨s3, ?_, by rw [← List.append_assoc]; exact b2, a3.tr b3⟩
  unfold f_X10_putLeaf_24 f_X7_numberOf_T1
  have s16 : s2.1 16 = nI N := by rw [a3.1 16 (by decide), hA.1 16 (by decide) (by decide)]; exact h16
  have e17 : s2.2.1 (17 + 0) c = nI (NU k) := by
    rw [a3.2.1 17 (by decide)]
    have := hnum k hk (by omega)
    rw [← hS] at this
    exact this
  rw [a1, Option.bind_some, if_pos (show nI 104 = (104 : Int32) from rfl), show (0 : Int32) = nI 0 from rfl, partT s16 hN hc (by omega), Option.bind_some, Option.bind_some]
  simp only []
  rw [e17, numC hn (show NU k < 2 ^ 31 by have := hNU k hk; omega), b1, Option.bind_some]
theorem CC_moved {n : Nat} {sC : StT} {c n0 m dp : Nat} {S NU : Nat → Nat} {E : List Nat} (hm : m ≤ n0) (hS : ∀ k, m ≤ k → k < n0 → NBx sC c (S k)) (a : CCt n sC c m S NU dp E) : CCt n sC c n0 S NU dp E := by
  intro top turn fu s B hA hP hB htu hfu ht hpt h15 hnum hd hNU
  refine (a top turn fu s B hA hP hB htu hfu ht hpt h15 (fun k hk => hnum k (by omega)) hd (fun k hk => hNU k (by omega))).weak (fun x hx h => ?_)
  rcases h with ⟨k, hk, rfl⟩ | h
  · by_cases c1 : k < m
    · exact Or.inl ⟨k, c1, rfl⟩
    · exact Or.inr (hS k (by omega) hk)
  · exact Or.inr h
theorem preP_0 {t : FT} {nm : Nat → List Nat} {k f : Nat} (h : k ≠ 76) : preP t nm k f 0 = [k] ++ [40] := by unfold preP; rw [if_pos rfl, if_neg h]
theorem preP_s {t : FT} {nm : Nat → List Nat} {k f b : Nat} (h : b ≠ 0) : preP t nm k f b = [44] := by unfold preP; rw [if_neg h]
theorem CC_one {n N : Nat} (hn : 100000 ≤ n) {D : HD} {sC : StT} {c c1 n0 k dp : Nat} {S NU : Nat → Nat} {E1 : List Nat} (env : ENV D sC N) (hc : c < N) (hk : k ∈ [70, 83, 73, 74, 88]) (hkk : sC.2.1 16 c = nI k) (h1 : c1 < c) (k1 : sC.2.1 17 c = nI c1) (a : CCt n sC c1 n0 S NU dp E1) : CCt n sC c n0 S NU dp ([k] ++ [40] ++ E1 ++ [41]) := by
  obtain ⟨hC, hw, h7, hNm, hNW, h16, hN⟩ := env
  obtain ⟨q1, q2, q3, q4, q5, q6⟩ := (show ∀ k, k ∈ [70, 83, 73, 74, 88] → k ∈ KDS ∧ prtN k = 1 ∧ bndN k 0 = false ∧ k < 128 ∧ k ≠ 76 ∧ k ≠ 104 by decide) k hk
  have nb0 : ¬ bndN k 0 = true := by rw [q3]; decide
  intro top turn fu s B hA hP hB htu hfu ht hpt h15 hnum hd hNU
  have g0 : RunT n sC s (f_X10_putTerm_24_13 n fu s (nI top) (nI turn)) B top c 0 dp (XX sC c n0 S) := Or.inl ⟨hB, s, fu, turn, rfl, hP, htu, hfu, hA, h15, hpt, fun _ _ => rfl, fun _ _ _ => rfl⟩
  have g1 := RunT.part (k := k) (b := 0) (f := 0) (bb := 50000) (c' := c1) (dp := dp) (dq := dp) hn hC hw h7 hNm hNW h16 hN hc q1 hkk (by rw [q2]; omega) (fun e => absurd e q5) (fun e => absurd e nb0) ht (fun e => absurd e (by omega)) h1 k1 q6 rfl hd (by rw [q3]; rfl) a (fun z x y => Or.inr ⟨fun e => nb0 e.1, Or.inl ⟨z, x, rfl⟩, hnum z x y⟩) hNU (fun x hx h => ⟨fun e => nb0 e.1, by
    rcases h with h | h
    · exact Or.inl h
    · exact Or.inr (NB_sub hN hc hx h h1 hkk (Or.inl ⟨q4, q5⟩))⟩) g0
  rw [preP_0 q5] at g1
  rw [show 0 + 1 = prtN k from q2.symm] at g1
  have g2 := RunT.fin (k := k) (dp := dp) h16 hN hc q1 hkk (by rw [q2]; omega) (by simp only [len_app]; omega) (by rw [q2, show 1 - 1 = 0 from rfl, q3]; rfl) g1
  simp only [List.append_assoc] at g2 ⊢
  exact g2
theorem CC_two {n N : Nat} (hn : 100000 ≤ n) {D : HD} {sC : StT} {c c1 c2 n0 k dp : Nat} {S NU : Nat → Nat} {E1 E2 : List Nat} (env : ENV D sC N) (hc : c < N) (hk : k ∈ [65, 80]) (hkk : sC.2.1 16 c = nI k) (h1 : c1 < c) (k1 : sC.2.1 17 c = nI c1) (h2 : c2 < c) (k2 : sC.2.1 18 c = nI c2) (a : CCt n sC c1 n0 S NU dp E1) (a2 : CCt n sC c2 n0 S NU dp E2) : CCt n sC c n0 S NU dp ([k] ++ [40] ++ E1 ++ [44] ++ E2 ++ [41]) := by
  obtain ⟨hC, hw, h7, hNm, hNW, h16, hN⟩ := env
  obtain ⟨q1, q2, q3, q3', q4, q5, q6⟩ := (show ∀ k, k ∈ [65, 80] → k ∈ KDS ∧ prtN k = 2 ∧ bndN k 0 = false ∧ bndN k 1 = false ∧ k < 128 ∧ k ≠ 76 ∧ k ≠ 104 by decide) k hk
  have nb0 : ¬ bndN k 0 = true := by rw [q3]; decide
  have nb1 : ¬ bndN k (0 + 1) = true := by rw [show 0 + 1 = 1 from rfl, q3']; decide
  intro top turn fu s B hA hP hB htu hfu ht hpt h15 hnum hd hNU
  have sub : ∀ c', c' < c → ∀ x, x < 40000 → XX sC c n0 S x → XX sC c' n0 S x := fun c' hc' x hx h => by
    rcases h with h | h
    · exact Or.inl h
    · exact Or.inr (NB_sub hN hc hx h hc' hkk (Or.inl ⟨q4, q5⟩))
  have g0 : RunT n sC s (f_X10_putTerm_24_13 n fu s (nI top) (nI turn)) B top c 0 dp (XX sC c n0 S) := Or.inl ⟨hB, s, fu, turn, rfl, hP, htu, hfu, hA, h15, hpt, fun _ _ => rfl, fun _ _ _ => rfl⟩
  have g1 := RunT.part (k := k) (b := 0) (f := 0) (bb := 50000) (c' := c1) (dp := dp) (dq := dp) hn hC hw h7 hNm hNW h16 hN hc q1 hkk (by rw [q2]; omega) (fun e => absurd e q5) (fun e => absurd e nb0) ht (fun e => absurd e (by omega)) h1 k1 q6 rfl hd (by rw [q3]; rfl) a (fun z x y => Or.inr ⟨fun e => nb0 e.1, Or.inl ⟨z, x, rfl⟩, hnum z x y⟩) hNU (fun x hx h => ⟨fun e => nb0 e.1, sub c1 h1 x hx h⟩) g0
  rw [preP_0 q5] at g1
  have g2 := RunT.part (k := k) (b := 0 + 1) (f := 0) (bb := 50000) (c' := c2) (dp := dp) (dq := dp) hn hC hw h7 hNm hNW h16 hN hc q1 hkk (show 0 + 1 < prtN k by rw [q2]; omega) (fun e => absurd e q5) (fun e => absurd e nb1) (by simp only [len_app]; omega) (fun _ => by simp only [len_app, List.length_singleton]; omega) h2 k2 q6 (by rw [show 0 + 1 - 1 = 0 from rfl, q3, Bool.and_false]; rfl) (by simp only [len_app]; omega) (by rw [show 0 + 1 = 1 from rfl, q3']; rfl) a2 (fun z x y => Or.inr ⟨fun e => nb1 e.1, Or.inl ⟨z, x, rfl⟩, hnum z x y⟩) hNU (fun x hx h => ⟨fun e => nb1 e.1, sub c2 h2 x hx h⟩) g1
  rw [preP_s (by decide)] at g2
  rw [show 0 + 1 + 1 = prtN k from q2.symm] at g2
  have g3 := RunT.fin (k := k) (dp := dp) h16 hN hc q1 hkk (by rw [q2]; omega) (by simp only [len_app]; omega) (by rw [q2, show 2 - 1 = 1 from rfl, q3']; rfl) g2
  simp only [List.append_assoc] at g3 ⊢
  exact g3
/-- what a binder does not touch -/
theorem bnd_off {sC : StT} {c bb n0 x N : Nat} {S : Nat → Nat} (hN : N ≤ 30027) (hc : c < N) (hx : x < 40000) (hB : BND sC c bb) (hS : ∀ k, k < n0 → S k < 40000 → S k ≠ bb) (h : XX sC c n0 S x) : x ≠ bb := by
  intro e
  rcases h with ⟨k, hk, e2⟩ | h | ⟨a, b, c1, d, f⟩
  · exact hS k hk (by omega) (by omega)
  · rcases hB with ⟨b1, b2, b3⟩ | ⟨b1, b2⟩ <;> omega
  · rcases hB with ⟨b1, b2, b3⟩ | ⟨b1, b2⟩
    · exact b (by rw [e]; exact b1)
    · omega
theorem num_bnd {sC s : StT} {c bb n0 dp : Nat} {S NU : Nat → Nat} {k b : Nat} (hb : bndN k b = true) (hS : ∀ k, k < n0 → S k < 40000 → S k ≠ bb) (hnum : ∀ k, k < n0 → S k < 40000 → s.2.1 17 (S k) = nI (NU k)) : ∀ z, z < n0 + 1 → updN S n0 bb z < 40000 → (bndN k b = true ∧ updN S n0 bb z = bb ∧ updN NU n0 dp z = dp) ∨ (¬ (bndN k b = true ∧ updN S n0 bb z = bb) ∧ XX sC c n0 S (updN S n0 bb z) ∧ s.2.1 17 (updN S n0 bb z) = nI (updN NU n0 dp z)) := by
  intro z hz hz2
  by_cases e : z = n0
  · left; rw [e, updN_at, updN_at]; exact ⟨hb, rfl, rfl⟩
  · right
    rw [updN_ne _ _ e] at hz2 ⊢
    rw [updN_ne _ _ e]
    exact ⟨fun x => hS z (by omega) hz2 x.2, Or.inl ⟨z, by omega, rfl⟩, hnum z (by omega) hz2⟩
theorem nu_bnd {n0 dp : Nat} {NU : Nat → Nat} (hNU : ∀ k, k < n0 → NU k ≤ dp) : ∀ z, z < n0 + 1 → updN NU n0 dp z ≤ dp + 1 := fun z hz => by
  by_cases e : z = n0
  · rw [e, updN_at]; omega
  · rw [updN_ne _ _ e]; have := hNU z (by omega); omega
theorem xx_bnd {sC : StT} {c c' bb n0 x k N : Nat} {S : Nat → Nat} (hN : N ≤ 30027) (hc : c < N) (hx : x < 40000) (hkk : sC.2.1 16 c = nI k) (hc' : c' < c) (hk : (k < 128 ∧ k ≠ 76) ∨ sC.2.1 17 c = nI c') (h : XX sC c n0 S x) : XX sC c' (n0 + 1) (updN S n0 bb) x := by
  rcases h with ⟨k, hk, e2⟩ | h
  · exact Or.inl ⟨k, by omega, by rw [updN_ne _ _ (by omega)]; exact e2⟩
  · exact Or.inr (NB_sub hN hc hx h hc' hkk hk)
theorem CC_lam {n N : Nat} (hn : 100000 ≤ n) {D : HD} {sC : StT} {c c1 n0 dp f bb : Nat} {S NU : Nat → Nat} {E1 : List Nat} (env : ENV D sC N) (hc : c < N) (hkk : sC.2.1 16 c = 76) (hf : f < D.1.1) (k0 : sC.2.1 18 c = nI f) (h1 : c1 < c) (k1 : sC.2.1 17 c = nI c1) (hB : BND sC c bb) (hS : ∀ k, k < n0 → S k < 40000 → S k ≠ bb) (a : CCt n sC c1 (n0 + 1) (updN S n0 bb) (updN NU n0 dp) (dp + 1) E1) : CCt n sC c n0 S NU dp ([76] ++ [40] ++ fb D.1 D.2.2.2 f ++ [44] ++ E1 ++ [41]) := by
  obtain ⟨hC, hw, h7, hNm, hNW, h16, hN⟩ := env
  have hkk : sC.2.1 16 c = nI 76 := hkk
  have b0 : bndN 76 0 = true := by decide
  intro top turn fu s B hA hP hB2 htu hfu ht hpt h15 hnum hd hNU
  have g0 : RunT n sC s (f_X10_putTerm_24_13 n fu s (nI top) (nI turn)) B top c 0 dp (XX sC c n0 S) := Or.inl ⟨hB2, s, fu, turn, rfl, hP, htu, hfu, hA, h15, hpt, fun _ _ => rfl, fun _ _ _ => rfl⟩
  have g1 := RunT.part (k := 76) (b := 0) (f := f) (bb := bb) (c' := c1) (dp := dp) (dq := dp + 1) hn hC hw h7 hNm hNW h16 hN hc (by decide) hkk (by decide) (fun _ => ⟨k0, hf⟩) (fun _ => hB) ht (fun e => absurd e (by omega)) h1 k1 (by decide) rfl hd (by rw [b0]; rfl) a (num_bnd b0 hS hnum) (nu_bnd hNU) (fun x hx h => ⟨fun e => bnd_off hN hc hx hB hS h e.2, xx_bnd hN hc hx hkk h1 (Or.inr k1) h⟩) g0
  have g2 := RunT.fin (k := 76) (dp := dp) h16 hN hc (by decide) hkk (by decide) (by simp only [len_app]; omega) (by rfl) g1
  have ep : preP D.1 D.2.2.2 76 f 0 = [76] ++ [40] ++ fb D.1 D.2.2.2 f ++ [44] := by unfold preP; rw [if_pos rfl, if_pos rfl]
  rw [ep] at g2
  simp only [List.append_assoc] at g2 ⊢
  exact g2
theorem CC_cas {n N : Nat} (hn : 100000 ≤ n) {D : HD} {sC : StT} {c c1 c2 c3 n0 dp bb : Nat} {S NU : Nat → Nat} {E1 E2 E3 : List Nat} (env : ENV D sC N) (hc : c < N) (hkk : sC.2.1 16 c = 67) (h1 : c1 < c) (k1 : sC.2.1 17 c = nI c1) (h2 : c2 < c) (k2 : sC.2.1 18 c = nI c2) (h3 : c3 < c) (k3 : sC.2.1 19 c = nI c3) (hB : BND sC c bb) (hS : ∀ k, k < n0 → S k < 40000 → S k ≠ bb) (a : CCt n sC c1 n0 S NU dp E1) (a2 : CCt n sC c2 (n0 + 1) (updN S n0 bb) (updN NU n0 dp) (dp + 1) E2) (a3 : CCt n sC c3 (n0 + 1) (updN S n0 bb) (updN NU n0 dp) (dp + 1) E3) : CCt n sC c n0 S NU dp ([67] ++ [40] ++ E1 ++ [44] ++ E2 ++ [44] ++ E3 ++ [41]) := by
  obtain ⟨hC, hw, h7, hNm, hNW, h16, hN⟩ := env
  have hkk : sC.2.1 16 c = nI 67 := hkk
  have b0 : bndN 67 0 = false := by decide
  have b1 : bndN 67 (0 + 1) = true := by decide
  have b2 : bndN 67 (0 + 1 + 1) = true := by decide
  have nb0 : ¬ bndN 67 0 = true := by decide
  intro top turn fu s B hA hP hB2 htu hfu ht hpt h15 hnum hd hNU
  have g0 : RunT n sC s (f_X10_putTerm_24_13 n fu s (nI top) (nI turn)) B top c 0 dp (XX sC c n0 S) := Or.inl ⟨hB2, s, fu, turn, rfl, hP, htu, hfu, hA, h15, hpt, fun _ _ => rfl, fun _ _ _ => rfl⟩
  have g1 := RunT.part (k := 67) (b := 0) (f := 0) (bb := bb) (c' := c1) (dp := dp) (dq := dp) hn hC hw h7 hNm hNW h16 hN hc (by decide) hkk (by decide) (fun e => absurd e (by decide)) (fun _ => hB) ht (fun e => absurd e (by omega)) h1 k1 (by decide) rfl hd (by rw [b0]; rfl) a (fun z x y => Or.inr ⟨fun e => nb0 e.1, Or.inl ⟨z, x, rfl⟩, hnum z x y⟩) hNU (fun x hx h => ⟨fun e => nb0 e.1, by
    rcases h with h | h
    · exact Or.inl h
    · exact Or.inr (NB_sub hN hc hx h h1 hkk (Or.inl ⟨by decide, by decide⟩))⟩) g0
  rw [preP_0 (by decide)] at g1
  have g2 := RunT.part (k := 67) (b := 0 + 1) (f := 0) (bb := bb) (c' := c2) (dp := dp) (dq := dp + 1) hn hC hw h7 hNm hNW h16 hN hc (by decide) hkk (show 0 + 1 < prtN 67 by decide) (fun e => absurd e (by decide)) (fun _ => hB) (by simp only [len_app]; omega) (fun _ => by simp only [len_app, List.length_singleton]; omega) h2 k2 (by decide) rfl (by simp only [len_app]; omega) (by rw [b1]; rfl) a2 (num_bnd b1 hS hnum) (nu_bnd hNU) (fun x hx h => ⟨fun e => bnd_off hN hc hx hB hS h e.2, xx_bnd hN hc hx hkk h2 (Or.inl ⟨by decide, by decide⟩) h⟩) g1
  rw [preP_s (by decide)] at g2
  have g3 := RunT.part (k := 67) (b := 0 + 1 + 1) (f := 0) (bb := bb) (c' := c3) (dp := dp) (dq := dp + 1) hn hC hw h7 hNm hNW h16 hN hc (by decide) hkk (show 0 + 1 + 1 < prtN 67 by decide) (fun e => absurd e (by decide)) (fun _ => hB) (by simp only [len_app]; omega) (fun _ => by simp only [len_app, List.length_singleton]; omega) h3 k3 (by decide) rfl (by simp only [len_app]; omega) (by rw [b2]; rfl) a3 (num_bnd b2 hS hnum) (nu_bnd hNU) (fun x hx h => ⟨fun e => bnd_off hN hc hx hB hS h e.2, xx_bnd hN hc hx hkk h3 (Or.inl ⟨by decide, by decide⟩) h⟩) g2
  rw [preP_s (by decide)] at g3
  have g4 := RunT.fin (k := 67) (dp := dp) h16 hN hc (by decide) hkk (by decide) (by simp only [len_app]; omega) (by rfl) g3
  simp only [List.append_assoc] at g4 ⊢
  exact g4
