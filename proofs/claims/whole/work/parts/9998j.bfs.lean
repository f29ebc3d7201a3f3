/-! ===== refute: the class lays the worlds, breadth first ===== -/
def EC (sC s : StT) : Prop := s.1 = sC.1 ∧ (∀ j, j ≠ 42 → j ≠ 43 → j ≠ 44 → j ≠ 45 → s.2.1 j = sC.2.1 j) ∧ s.2.2 = sC.2.2
theorem EC.a {sC s : StT} {k : Nat} {i x : Int32} (h : EC sC s) (hk : k = 42 ∨ k = 43 ∨ k = 44 ∨ k = 45) : EC sC (uA s k i x) := ⟨h.1, fun j a b c d => by simp only [uA_21]; rw [if_neg (by omega)]; exact h.2.1 j a b c d, h.2.2⟩
/-- entries of the queue: a tree and its number -/
def QE (sC sM : StT) (N T : Nat) (par frc : Nat → Int32) (s : StT) (Q : List (WN × Nat)) : Prop := ∀ j e, Q[j]? = some e → s.2.1 44 j = nI e.1.2.1 ∧ s.2.1 45 j = nI e.2 ∧ s.2.1 42 e.2 = par e.2 ∧ s.2.1 43 e.2 = frc e.2 ∧ e.2 + e.1.2.2.2.2.2 ≤ T ∧ ∃ h u, WL sC sM N par frc h e.1 e.2 u
def kidsAt : Nat → List WN → List (WN × Nat)
  | _, [] => []
  | x, k :: l => (k, x) :: kidsAt (x + k.2.2.2.2.2) l
theorem kidsAt_len : ∀ (L : List WN) (x : Nat), (kidsAt x L).length = L.length := by
  intro L
  induction L with
  | nil => intro x; rfl
  | cons k l ih => intro x; show (kidsAt _ l).length + 1 = l.length + 1; rw [ih]
theorem kidsAt_sum : ∀ (L : List WN) (x : Nat), sumT ((kidsAt x L).map (fun e => e.1)) = sumT L := by
  intro L
  induction L with
  | nil => intro x; rfl
  | cons k l ih => intro x; rw [kidsAt, List.map_cons, sumT_cons, sumT_cons, ih]
theorem kidsAt_cov : ∀ (L : List WN) (x w : Nat), x ≤ w → w < x + sumT L → ∃ e, e ∈ kidsAt x L ∧ e.2 ≤ w ∧ w < e.2 + e.1.2.2.2.2.2 := by
  intro L
  induction L with
  | nil => intro x w h1 h2; rw [sumT_nil] at h2; omega
  | cons k l ih =>
    intro x w h1 h2
    rw [sumT_cons] at h2
    by_cases c : w < x + k.2.2.2.2.2
    · exact ⟨(k, x), List.mem_cons_self .., h1, c⟩
    · obtain ⟨e, a1, a2, a3⟩ := ih (x + k.2.2.2.2.2) w (by omega) (by omega)
      exact ⟨e, List.mem_cons_of_mem _ a1, a2, a3⟩
theorem WL.h1 {sC sM : StT} {N : Nat} {par frc : Nat → Int32} {h : Nat} {p : WN} {b : Nat} {u : Int32} (a : WL sC sM N par frc h p b u) : par b = u ∧ frc b = sC.2.1 25 p.2.1 ∧ p.2.1 < N ∧ sC.2.1 28 p.2.1 = nI p.2.2.2.2.2 ∧ 1 ≤ p.2.2.2.2.2 := by
  cases h with
  | zero => exact a.elim
  | succ h => obtain ⟨a1, a2, a3, a4, L, a5, _⟩ := a; exact ⟨a1, a2, a3, a4, by omega⟩
theorem layD {n : Nat} {s : StT} {w : Nat} {x y : Int32} (hw : w < 60) : f_X9_lay n s (nI w) x y = some (uA (uA s 42 (nI w) x) 43 (nI w) y) := by
  unfold f_X9_lay
  rw [if_neg (nI_nneg (by omega)), if_neg (show ¬ (60 : Int32) ≤ nI w from fun e => absurd ((nI_leI (a := 60) (by omega) (by omega)).mp e) (by omega)), inB_nI hw (by omega), if_pos rfl, if_pos rfl]
theorem kids38 {n : Nat} {sC sM : StT} {N T i b h : Nat} {par frc : Nat → Int32} (hN : sC.1 18 = nI N) (hN2 : N ≤ 2000) (hT : T ≤ 60) : ∀ (L : List WN) (Q : List (WN × Nat)) (x0 fu : Nat) (x y : Int32) (s : StT), EC sC s → QE sC sM N T par frc s Q → CHN sC sM x y L → i < Q.length → (∀ s', EC sC s' → True) → s.2.1 45 i = nI b → (∀ A k B, L = A ++ k :: B → WL sC sM N par frc h k (x0 + sumT A) (nI b)) → x0 + sumT L ≤ T → Q.length + L.length ≤ T → L.length < fu →
    ∃ s', f_X9_layChildren_35_38 n fu s (nI i) (nI Q.length) (nI x0) x = some (nI (Q.length + L.length), s') ∧ EC sC s' ∧ QE sC sM N T par frc s' (Q ++ kidsAt x0 L) := by
  intro L
  induction L with
  | nil =>
    intro Q x0 fu x y s hE hQ hc hi _ h45 hW h1 h2 hfu
    obtain ⟨fu, rfl⟩ := Nat.exists_eq_succ_of_ne_zero (show fu ≠ 0 by omega)
    refine ⟨s, ?_, hE, by rw [kidsAt, List.append_nil]; exact hQ⟩
    rw [f_X9_layChildren_35_38, if_neg (nI_nneg (by omega)), hc.1, hasU_m1, Option.bind_some]
    simp only [if_true]
    rw [ite_self]
    rfl
  | cons k l ih =>
    intro Q x0 fu x y s hE hQ hc hi _ h45 hW h1 h2 hfu
    obtain ⟨fu, rfl⟩ := Nat.exists_eq_succ_of_ne_zero (show fu ≠ 0 by omega)
    have hlen : (k :: l).length = l.length + 1 := rfl
    rw [hlen] at h2 hfu ⊢
    rw [sumT_cons] at h1
    have hk : WL sC sM N par frc h k x0 (nI b) := by have := hW [] k l rfl; rw [sumT_nil, Nat.add_zero] at this; exact this
    obtain ⟨k1, k2, k3, k4, k5⟩ := hk.h1
    have hx0 : x0 < 60 := by omega
    generalize hs1 : uA (uA (uA (uA s 42 (nI x0) (nI b)) 43 (nI x0) (sC.2.1 25 k.2.1)) 44 (nI Q.length) (nI k.2.1)) 45 (nI Q.length) (nI x0) = s1
    have E1 : EC sC s1 := by rw [← hs1]; exact (((hE.a (by decide)).a (by decide)).a (by decide)).a (by decide)
    have r42 : ∀ j, s1.2.1 42 j = if j = x0 then nI b else s.2.1 42 j := fun j => by
      rw [← hs1]; simp only [uA_21, if_neg (show ¬ (42 : Nat) = 43 by decide), if_neg (show ¬ (42 : Nat) = 44 by decide), if_neg (show ¬ (42 : Nat) = 45 by decide), if_true, upd_j, nI_cl (show x0 < 2 ^ 31 by omega)]
    have r43 : ∀ j, s1.2.1 43 j = if j = x0 then sC.2.1 25 k.2.1 else s.2.1 43 j := fun j => by
      rw [← hs1]; simp only [uA_21, if_neg (show ¬ (43 : Nat) = 42 by decide), if_neg (show ¬ (43 : Nat) = 44 by decide), if_neg (show ¬ (43 : Nat) = 45 by decide), if_true, upd_j, nI_cl (show x0 < 2 ^ 31 by omega)]
    have r44 : ∀ j, s1.2.1 44 j = if j = Q.length then nI k.2.1 else s.2.1 44 j := fun j => by
      rw [← hs1]; simp only [uA_21, if_neg (show ¬ (44 : Nat) = 42 by decide), if_neg (show ¬ (44 : Nat) = 43 by decide), if_neg (show ¬ (44 : Nat) = 45 by decide), if_true, upd_j, nI_cl (show Q.length < 2 ^ 31 by omega)]
    have r45 : ∀ j, s1.2.1 45 j = if j = Q.length then nI x0 else s.2.1 45 j := fun j => by
      rw [← hs1]; simp only [uA_21, if_neg (show ¬ (45 : Nat) = 42 by decide), if_neg (show ¬ (45 : Nat) = 43 by decide), if_neg (show ¬ (45 : Nat) = 44 by decide), if_true, upd_j, nI_cl (show Q.length < 2 ^ 31 by omega)]
    have s42 : ∀ j, s.2.1 42 j = par j → s1.2.1 42 j = par j := fun j hj => by
      rw [r42]; by_cases c : j = x0
      · rw [if_pos c, c]; exact k1.symm
      · rw [if_neg c]; exact hj
    have s43 : ∀ j, s.2.1 43 j = frc j → s1.2.1 43 j = frc j := fun j hj => by
      rw [r43]; by_cases c : j = x0
      · rw [if_pos c, c]; exact k2.symm
      · rw [if_neg c]; exact hj
    have hQ1 : QE sC sM N T par frc s1 (Q ++ [(k, x0)]) := by
      intro j e he
      by_cases c : j < Q.length
      · rw [List.getElem?_append_left c] at he
        obtain ⟨q1, q2, q3, q4, q5, q6⟩ := hQ j e he
        refine ⟨by rw [r44, if_neg (by omega)]; exact q1, by rw [r45, if_neg (by omega)]; exact q2, s42 _ q3, s43 _ q4, q5, q6⟩
      · rw [List.getElem?_append_right (by omega)] at he
        have hj : j = Q.length := by
          rcases Nat.lt_or_ge (j - Q.length) 1 with z | z
          · omega
          · rw [List.getElem?_eq_none (by simpa using z)] at he; cases he
        rw [hj, Nat.sub_self] at he
        have he : (k, x0) = e := by simpa using he
        rw [← he, hj]
        refine ⟨by rw [r44, if_pos rfl], by rw [r45, if_pos rfl], ?_, ?_, by show x0 + k.2.2.2.2.2 ≤ T; omega, h, nI b, hk⟩
        · rw [r42, if_pos rfl]; exact k1.symm
        · rw [r43, if_pos rfl]; exact k2.symm
    have hl1 : (Q ++ [(k, x0)]).length = Q.length + 1 := by simp
    obtain ⟨s', a1, a2, a3⟩ := ih (Q ++ [(k, x0)]) (x0 + k.2.2.2.2.2) fu (sC.2.1 27 k.2.1) (sM.2.1 31 k.2.2.2.2.1) s1 E1 hQ1 hc.2.2 (by omega) (fun _ _ => trivial) (by rw [r45, if_neg (by omega)]; exact h45) (fun A q B hL => by
      have := hW (k :: A) q B (by rw [hL]; rfl)
      rw [sumT_cons, ← Nat.add_assoc] at this
      exact this) (by omega) (by omega) (by omega)
    refine ⟨s', ?_, a2, by rw [kidsAt]; rw [List.append_assoc] at a3; exact a3⟩
    have f18 : ∀ {z : StT}, EC sC z → z.1 18 = nI N := fun hz => by rw [hz.1]; exact hN
    have fo : f_X4_forcedIn n s (nI k.2.1) = some (sC.2.1 25 k.2.1, s) := by
      unfold f_X4_forcedIn
      rw [hasU (f18 hE) hN2 k3, Option.bind_some]
      simp only []
      rw [if_neg (by decide), inB_nI (show k.2.1 < 2000 by omega) (by omega), if_pos rfl, nI_cl (by omega), hE.2.1 25 (by decide) (by decide) (by decide) (by decide)]
    have to : f_X4_totalOf n s1 (nI k.2.1) = some (nI k.2.2.2.2.2, s1) := by
      unfold f_X4_totalOf
      rw [hasU (f18 E1) hN2 k3, Option.bind_some]
      simp only []
      rw [if_neg (by decide), inB_nI (show k.2.1 < 2000 by omega) (by omega), if_pos rfl, nI_cl (by omega), E1.2.1 28 (by decide) (by decide) (by decide) (by decide), k4]
    have si : f_X4_siblingOf n s1 (nI k.2.1) = some (sC.2.1 27 k.2.1, s1) := by
      unfold f_X4_siblingOf
      rw [hasU (f18 E1) hN2 k3, Option.bind_some]
      simp only []
      rw [if_neg (by decide), inB_nI (show k.2.1 < 2000 by omega) (by omega), if_pos rfl, nI_cl (by omega), E1.2.1 27 (by decide) (by decide) (by decide) (by decide)]
    rw [f_X9_layChildren_35_38, if_neg (nI_nneg (by omega)), if_neg (show ¬ (60 : Int32) ≤ nI Q.length from fun e => absurd ((nI_leI (a := 60) (by omega) (by omega)).mp e) (by omega)), hc.1, hasU (f18 hE) hN2 k3, Option.bind_some]
    simp only []
    rw [if_neg (by decide), inB_nI (show i < 60 by omega) (by omega), if_pos rfl, fo, Option.bind_some]
    simp only []
    rw [nI_cl (show i < 2 ^ 31 by omega), h45, layD hx0, Option.bind_some]
    rw [inB_nI (show Q.length < 60 by omega) (by omega), if_pos rfl, if_pos rfl, hs1, to, Option.bind_some]
    simp only []
    rw [si, Option.bind_some]
    simp only []
    rw [nI_1, nI_add, ← hl1, a1, hl1, show Q.length + 1 + l.length = Q.length + (l.length + 1) by omega]
theorem take51 {n : Nat} (hn : 100000 ≤ n) {sC sM : StT} {N T : Nat} {par frc : Nat → Int32} (hN : sC.1 18 = nI N) (hN2 : N ≤ 2000) (hT : T ≤ 60) : ∀ (d : Nat) (P R : List (WN × Nat)) (s : StT) (fu : Nat), EC sC s → QE sC sM N T par frc s (P ++ R) → sumT (R.map (fun e => e.1)) + P.length = T → d + P.length = T → d < fu → (∀ w, w < T → (∃ e, e ∈ P ++ R ∧ e.2 = w) ∨ ∃ e, e ∈ R ∧ e.2 < w ∧ w < e.2 + e.1.2.2.2.2.2) →
    ∃ s', f_X9_take_35_51 n fu s (nI T) (nI (P ++ R).length) (nI P.length) = some (nI T, uF s' 27 (nI T)) ∧ EC sC s' ∧ ∀ w, w < T → s'.2.1 42 w = par w ∧ s'.2.1 43 w = frc w := by
  intro d
  induction d with
  | zero =>
    intro P R s fu hE hQ hs hd hfu hcov
    obtain ⟨fu, rfl⟩ := Nat.exists_eq_succ_of_ne_zero (show fu ≠ 0 by omega)
    have hR : R = [] := by
      cases R with
      | nil => rfl
      | cons e R =>
        obtain ⟨_, _, _, _, _, h, u, hw⟩ := hQ P.length e (by simp)
        have := hw.h1
        rw [List.map_cons, sumT_cons] at hs
        omega
    subst hR
    rw [List.append_nil] at hQ hcov ⊢
    refine ⟨s, ?_, hE, fun w hw => ?_⟩
    · rw [f_X9_take_35_51, if_pos ((nI_leI (by omega) (by omega)).mpr (Nat.le_refl _))]
      rfl
    · rcases hcov w hw with ⟨e, he, rfl⟩ | ⟨e, he, _⟩
      · obtain ⟨j, hj⟩ := List.getElem?_of_mem he
        obtain ⟨_, _, q3, q4, _⟩ := hQ j e hj
        exact ⟨q3, q4⟩
      · cases he
  | succ d ih =>
    intro P R s fu hE hQ hs hd hfu hcov
    obtain ⟨fu, rfl⟩ := Nat.exists_eq_succ_of_ne_zero (show fu ≠ 0 by omega)
    cases R with
    | nil => rw [List.map_nil, sumT_nil] at hs; omega
    | cons e R =>
      obtain ⟨q1, q2, q3, q4, q5, h, u, hw⟩ := hQ P.length e (by simp)
      have hlR : ∀ (R' : List (WN × Nat)), (∀ e', e' ∈ R' → 1 ≤ e'.1.2.2.2.2.2) → R'.length ≤ sumT (R'.map (fun e => e.1)) := by
        intro R'
        induction R' with
        | nil => intro _; simp
        | cons a l ih2 =>
          intro z
          have := z a (List.mem_cons_self ..)
          have := ih2 (fun e' he' => z e' (List.mem_cons_of_mem _ he'))
          rw [List.map_cons, sumT_cons, List.length_cons]
          omega
      have hR1 := hlR R (fun e' he' => by
        obtain ⟨j, hj⟩ := List.getElem?_of_mem (show e' ∈ P ++ e :: R by simp [he'])
        obtain ⟨_, _, _, _, _, h, u, hw⟩ := hQ j e' hj
        have := hw.h1
        omega)
      rw [List.map_cons, sumT_cons] at hs
      cases h with
      | zero => exact hw.elim
      | succ h =>
        obtain ⟨w1, w2, w3, w4, L, w5, w6, w7⟩ := hw
        have hL1 : L.length ≤ sumT L := by
          have : ∀ (A L' : List WN), L = A ++ L' → L'.length ≤ sumT L' := by
            intro A L'
            induction L' generalizing A with
            | nil => intro _; simp
            | cons a l ih2 =>
              intro z
              have := (w7 A a l z).h1
              have := ih2 (A ++ [a]) (by rw [z]; simp)
              rw [sumT_cons, List.length_cons]
              omega
          exact this [] L rfl
        have hlen : (P ++ e :: R).length = P.length + (R.length + 1) := by simp
        have f18 : s.1 18 = nI N := by rw [hE.1]; exact hN
        obtain ⟨s1, a1, a2, a3⟩ := kids38 (n := n) (sC := sC) (sM := sM) (N := N) (T := T) (i := P.length) (b := e.2) (h := h) (par := par) (frc := frc) hN hN2 hT L (P ++ e :: R) (e.2 + 1) n _ _ s hE hQ w6 (by omega) (fun _ _ => trivial) q2 w7 (by omega) (by omega) (by omega)
        have hs2 : sumT ((R ++ kidsAt (e.2 + 1) L).map (fun e => e.1)) + (P ++ [e]).length = T := by
          rw [List.map_append, sumT_ap2, kidsAt_sum, List.length_append, List.length_singleton]
          omega
        have eap : P ++ e :: R ++ kidsAt (e.2 + 1) L = (P ++ [e]) ++ (R ++ kidsAt (e.2 + 1) L) := by simp
        rw [eap] at a3
        obtain ⟨s', b1, b2, b3⟩ := ih (P ++ [e]) (R ++ kidsAt (e.2 + 1) L) s1 fu a2 a3 hs2 (by rw [List.length_append, List.length_singleton]; omega) (by omega) (fun w hw => by
          rcases hcov w hw with ⟨e', he', rfl⟩ | ⟨e', he', z1, z2⟩
          · left
            refine ⟨e', ?_, rfl⟩
            rw [← eap]; exact List.mem_append_left _ he'
          · rcases List.mem_cons.mp he' with rfl | he'
            · obtain ⟨e2, c1, c2, c3⟩ := kidsAt_cov L (e'.2 + 1) w (by omega) (by omega)
              by_cases c : e2.2 = w
              · left; exact ⟨e2, by simp [c1], c⟩
              · right; exact ⟨e2, by simp [c1], by omega, c3⟩
            · right; exact ⟨e', by simp [he'], z1, z2⟩)
        refine ⟨s', ?_, b2, b3⟩
        have hlen2 : (P ++ [e] ++ (R ++ kidsAt (e.2 + 1) L)).length = (P ++ e :: R).length + L.length := by rw [← eap, List.length_append, kidsAt_len]
        have hlen3 : (P ++ [e]).length = P.length + 1 := by simp
        rw [hlen2, hlen3] at b1
        rw [f_X9_take_35_51, if_neg (show ¬ nI (P ++ e :: R).length ≤ nI P.length from fun z => by have := (nI_leI (by omega) (by omega)).mp z; omega), if_neg (show ¬ nI T ≤ nI P.length from fun z => by have := (nI_leI (by omega) (by omega)).mp z; omega)]
        unfold f_X9_layChildren_35
        rw [if_neg (nI_nneg (by omega)), if_pos (show nI P.length < (60 : Int32) from by
          rcases Int32.lt_or_le (nI P.length) 60 with z | z
          · exact z
          · exact absurd ((nI_leI (a := 60) (by omega) (by omega)).mp z) (by omega)), inB_nI (show P.length < 60 by omega) (by omega), if_pos rfl, if_pos rfl, nI_cl (show P.length < 2 ^ 31 by omega), q1]
        have fc : f_X4_firstChildOf n s (nI e.1.2.1) = some (sC.2.1 26 e.1.2.1, s) := by
          unfold f_X4_firstChildOf
          rw [hasU f18 hN2 w3, Option.bind_some]
          simp only []
          rw [if_neg (by decide), inB_nI (show e.1.2.1 < 2000 by omega) (by omega), if_pos rfl, nI_cl (by omega), hE.2.1 26 (by decide) (by decide) (by decide) (by decide)]
        rw [fc, Option.bind_some]
        simp only []
        rw [q2, nI_1, a1, Option.bind_some]
        simp only []
        rw [nI_1]
        exact b1
theorem takeC {n : Nat} (hn : 100000 ≤ n) {sC sM : StT} {N h : Nat} {p : WN} {par frc : Nat → Int32} (hN : sC.1 18 = nI N) (hN2 : N ≤ 2000) (hw : WL sC sM N par frc h p 0 (-1)) (hT : p.2.2.2.2.2 ≤ 60) :
    ∃ s', f_X9_take_35 n sC (nI p.2.1) = some (nI p.2.2.2.2.2, uF s' 27 (nI p.2.2.2.2.2)) ∧ EC sC s' ∧ ∀ w, w < p.2.2.2.2.2 → s'.2.1 42 w = par w ∧ s'.2.1 43 w = frc w := by
  obtain ⟨w1, w2, w3, w4, w5⟩ := hw.h1
  generalize hs1 : uA (uA (uA (uA sC 42 0 (-1)) 43 0 (sC.2.1 25 p.2.1)) 44 0 (nI p.2.1)) 45 0 0 = s1
  have E0 : EC sC sC := ⟨rfl, fun _ _ _ _ _ => rfl, rfl⟩
  have E1 : EC sC s1 := by rw [← hs1]; exact (((E0.a (by decide)).a (by decide)).a (by decide)).a (by decide)
  obtain ⟨s', a1, a2, a3⟩ := take51 (n := n) hn (sC := sC) (sM := sM) (N := N) (T := p.2.2.2.2.2) (par := par) (frc := frc) hN hN2 hT p.2.2.2.2.2 [] [(p, 0)] s1 n E1 (by
    intro j e he
    have hj : j = 0 := by
      rcases Nat.lt_or_ge j 1 with z | z
      · omega
      · rw [List.getElem?_eq_none (by simpa using z)] at he; cases he
    subst hj
    have he : (p, 0) = e := by simpa using he
    rw [← he, ← hs1]
    exact ⟨rfl, rfl, w1.symm, w2.symm, by show 0 + p.2.2.2.2.2 ≤ p.2.2.2.2.2; omega, h, -1, hw⟩) (by simp [sumT]) (by simp) (by omega) (fun w hw => by
    by_cases c : w = 0
    · left; exact ⟨(p, 0), by simp, c.symm⟩
    · right; exact ⟨(p, 0), by simp, by show 0 < w; omega, by show w < 0 + p.2.2.2.2.2; omega⟩)
  refine ⟨s', ?_, a2, a3⟩
  unfold f_X9_take_35
  have to : f_X4_totalOf n sC (nI p.2.1) = some (nI p.2.2.2.2.2, sC) := by
    unfold f_X4_totalOf
    rw [hasU hN hN2 w3, Option.bind_some]
    simp only []
    rw [if_neg (by decide), inB_nI (show p.2.1 < 2000 by omega) (by omega), if_pos rfl, nI_cl (by omega), w4]
  have fo : f_X4_forcedIn n sC (nI p.2.1) = some (sC.2.1 25 p.2.1, sC) := by
    unfold f_X4_forcedIn
    rw [hasU hN hN2 w3, Option.bind_some]
    simp only []
    rw [if_neg (by decide), inB_nI (show p.2.1 < 2000 by omega) (by omega), if_pos rfl, nI_cl (by omega)]
  rw [to, Option.bind_some]
  simp only []
  rw [if_neg (show ¬ nI p.2.2.2.2.2 < (1 : Int32) from fun z => by
    have := (nI_ltI (b := 1) (by omega) (by omega)).mp z; omega), if_pos (show nI p.2.2.2.2.2 ≤ (60 : Int32) from (nI_leI (b := 60) (by omega) (by omega)).mpr hT), fo, Option.bind_some]
  simp only []
  rw [show (0 : Int32) = nI 0 from rfl, layD (show 0 < 60 by omega), Option.bind_some]
  rw [show inB (nI 0) 60 = true from rfl, if_pos rfl, if_pos rfl]
  have := hs1
  rw [show (0 : Int32) = nI 0 from rfl] at this
  rw [this]
  exact a1
/-- what refute may change -/
def RCC (s s' : StT) : Prop := (∀ j, j ≠ 27 → s'.1 j = s.1 j) ∧ (∀ j, j < 42 → s'.2.1 j = s.2.1 j) ∧ s'.2.2 = s.2.2
theorem op_refute {n : Nat} (hn : 100000 ≤ n) {D : HD} {sC sM : StT} {dn : Nat} {dp : Nat → Nat} {df : Nat → Int32} (hS : SR D sC sM) (hD : RelD sC sM dn dp df) :
    ∃ r sC' sM' dn' dp' df', f_X11_refute n sC = some (r, sC') ∧ f_X12_refute n sM = some (r, sM') ∧ RelD sC' sM' dn' dp' df' ∧ RCC sC sC' ∧ ER sM sM' := by
  unfold f_X11_refute f_X12_refute
  have h28 := hS.2.2.2.1
  rw [← h28]
  by_cases c : sC.1 22 = 0
  · obtain ⟨p, bC, bM, nC, nM, mk, hnC, hnM, e18, e30, hFW, e24, e29⟩ := hS.2.2.2.2.2.2 c
    obtain ⟨⟨h, hW⟩, f1, f2, f3, f4, f5, f6, f7⟩ := hFW
    have pb := hW.bd
    rw [if_pos c, if_pos c, e24, e29, show inB (0 : Int32) 2100 = true from rfl, if_pos rfl]
    have E0 : E56 sM (uA sM 56 0 (nI p.2.2.2.2.1)) := E56.u (⟨rfl, fun _ _ => rfl, rfl⟩ : E56 sM sM)
    have hsum : sumT [p] = p.2.2.2.2.2 := by rw [sumT_cons, sumT_nil, Nat.add_zero]
    obtain ⟨m1, a1, a2⟩ := count27 (n := n) hn (sC := sC) (sM := sM) p.2.2.2.2.2 0 1 n [p] (uA sM 56 0 (nI p.2.2.2.2.1)) E0 rfl (fun i q hq => by
      have hj : i = 0 := by
        rcases Nat.lt_or_ge i 1 with z | z
        · omega
        · rw [List.getElem?_eq_none (by simpa using z)] at hq; cases hq
      subst hj
      have he : p = q := by simpa using hq
      rw [← he]; rfl) (fun q hq => by rw [List.mem_singleton.mp hq]; exact ⟨h, hW⟩) hsum (by omega) (by omega)
    rw [show ((0 : Int32) + 1) = nI 1 from rfl, show (0 : Int32) = nI 0 from rfl]
    rw [show (0 : Int32) = nI 0 from rfl] at a1
    rw [a1, Nat.zero_add]
    by_cases cT : p.2.2.2.2.2 ≤ 60
    · obtain ⟨m', b1, b2, b3, b4, b5⟩ := refutedM (n := n) hn (N := nC) a2 hW f2 e29 cT
      obtain ⟨s', d1, d2, d3⟩ := takeC (n := n) hn e18 hnC b4 cT
      have w1 := b4.h1
      rw [d1, if_pos (show nI p.2.2.2.2.2 ≤ (60 : Int32) from (nI_leI (b := 60) (by omega) (by omega)).mpr cT), b1]
      refine ⟨nI p.2.2.2.2.2, uF s' 27 (nI p.2.2.2.2.2), m', p.2.2.2.2.2, fun w => (m'.2.1 53 w).toNatClampNeg, m'.2.1 54, rfl, rfl, ?_, ?_, b2⟩
      · refine ⟨by omega, cT, by simp only [uF_1, if_true], b3, fun w hw => ⟨by rw [uF_2]; exact (d3 w hw).2, rfl⟩, by rw [uF_2, (d3 0 (by omega)).1]; exact w1.1, w1.1, fun w hw hw2 => ?_⟩
        obtain ⟨x, hx, ex⟩ := b5 w hw hw2
        have : (m'.2.1 53 w).toNatClampNeg = x := by rw [ex, nI_cl (by omega)]
        simp only [this]
        exact ⟨by rw [uF_2, (d3 w hw2).1]; exact ex, ex, hx⟩
      · exact ⟨fun j hj => by simp only [uF_1]; rw [if_neg hj, d2.1], fun j hj => by rw [uF_2]; exact d2.2.1 j (by omega) (by omega) (by omega) (by omega), by rw [uF_2]; exact d2.2.2⟩
    · have to : f_X4_totalOf n sC (nI p.2.1) = some (nI p.2.2.2.2.2, sC) := by
        unfold f_X4_totalOf
        rw [hasU e18 hnC f2, Option.bind_some]
        simp only []
        rw [if_neg (by decide), inB_nI (show p.2.1 < 2000 by omega) (by omega), if_pos rfl, nI_cl (by omega), pb.2.2.2.2.2.2.1]
      have c60 : ¬ nI p.2.2.2.2.2 ≤ (60 : Int32) := fun z => cT ((nI_leI (b := 60) (by omega) (by omega)).mp z)
      refine ⟨-4, sC, m1, dn, dp, df, ?_, by rw [if_neg c60], ?_, ⟨fun _ _ => rfl, fun _ _ => rfl, rfl⟩, ⟨fun j _ => by rw [a2.1], fun j _ _ x _ => a2.2.1 j x, a2.2.2⟩⟩
      · unfold f_X9_take_35
        rw [to, Option.bind_some]
        simp only []
        rw [if_neg c60, ite_self]
        rfl
      · unfold RelD at hD ⊢
        rw [a2.1, a2.2.1 54 (by decide), a2.2.1 53 (by decide)]
        exact hD
  · rw [if_neg c, if_neg c]
    exact ⟨-3, sC, sM, dn, dp, df, rfl, rfl, hD, ⟨fun _ _ => rfl, fun _ _ => rfl, rfl⟩, ⟨fun _ _ => rfl, fun _ _ _ _ _ => rfl, rfl⟩⟩
