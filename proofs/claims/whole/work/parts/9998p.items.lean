/-! ===== proof: what lies on the reference's pile ===== -/
abbrev QD : Type := Int32 × Int32 × Int32 × Int32
def IT (n : Nat) (sM sb : StT) (cn0 L0 : Nat) (q : QD) (E : List Nat) : Prop := 1 ≤ E.length ∧ ∀ (h fu cn : Nat) (s : StT) (D : List Nat), AgTM sM s → PgM s D → D.length ≤ 8000 → L0 ≤ D.length → 2 * h ≤ 5 * D.length → s.1 31 = nI (h + 1) → KT ≤ fu + 60001 * D.length → ent s h = q → s.1 32 = nI cn → cn ≤ 20 + D.length → cn0 ≤ cn → (∀ j c, 36 < j → j < 40 → c < cn0 → s.2.1 j c = sb.2.1 j c) → GoesR n sM s (f_X12_writeAll_0 n fu s) (D ++ E) h cn
theorem IT.byte {n : Nat} {sM sb : StT} {cn0 L0 b : Nat} (hb : b < 128) : IT n sM sb cn0 L0 (0, nI b, 0, 0) [b] := ⟨Nat.le_refl _, fun h fu cn s D hA hP hD hL hh h31 hfu he h32 hcn _ _ => byteR hA hP hD h31 (by omega) hfu h32 hcn ⟨0, 0, he⟩ hb⟩
theorem IT.form {n : Nat} (hn : 100000 ≤ n) {D0 : HD} {sM sb : StT} {cn0 L0 f : Nat} (hM : MF sM D0.1) (hw : WFt D0.1 D0.2.1) (hNm : NmM sM D0.2.1 D0.2.2.2) (hNW : NmW D0.2.1 D0.2.2.2) (hf : f < D0.1.1) : IT n sM sb cn0 L0 (1, nI f, 0, 0) (fb D0.1 D0.2.2.2 f) := ⟨(fb_ok hw hNW f hf).1, fun h fu cn s D hA hP hD hL hh h31 hfu he h32 hcn _ _ => formR hn hM hw hNm hNW hf hA hP hD h31 (by omega) hfu h32 hcn ⟨0, 0, he⟩⟩
theorem IT.term {n : Nat} {sM sb : StT} {cn0 L0 r n0 dp : Nat} {NU : Nat → Nat} {E : List Nat} {x : Int32} (hE : 1 ≤ E.length) (hm : MMt n sM r n0 NU dp E) (hc : CHn sb cn0 NU n0 x) (hd : dp ≤ 20 + L0) (hN : ∀ k, k < n0 → NU k ≤ dp) : IT n sM sb cn0 L0 (2, nI r, x, nI dp) E := ⟨hE, fun h fu cn s D hA hP hD hL hh h31 hfu he h32 hcn hc0 hl => hm h fu cn s D x hA hP hD hh h31 (by omega) he h32 hcn (hc.mv hc0 hl (fun _ _ => rfl)) (by omega) hN⟩
def catE (Q : List (QD × List Nat)) : List Nat := (Q.map (fun q => q.2)).flatten
theorem runIT {n : Nat} {sM sb : StT} {cn0 L0 : Nat} : ∀ (Q : List (QD × List Nat)) (h fu cn : Nat) (s : StT) (D : List Nat), (∀ q, q ∈ Q → IT n sM sb cn0 L0 q.1 q.2) → AgTM sM s → PgM s D → D.length ≤ 8000 → L0 ≤ D.length → 2 * (h + Q.length) ≤ 5 * D.length + 2 → s.1 31 = nI (h + Q.length) → KT ≤ fu + 60001 * D.length → (∀ i q, Q[i]? = some q → ent s (h + (Q.length - 1 - i)) = q.1) → s.1 32 = nI cn → cn ≤ 20 + D.length → cn0 ≤ cn → (∀ j c, 36 < j → j < 40 → c < cn0 → s.2.1 j c = sb.2.1 j c) → GoesR n sM s (f_X12_writeAll_0 n fu s) (D ++ catE Q) h cn := by
  have hKT : KT = 486608110 := rfl
  intro Q
  induction Q with
  | nil =>
    intro h fu cn s D _ hA hP hD hL hh h31 hfu he h32 hcn hc0 hl
    have : D ++ catE [] = D := by unfold catE; simp
    rw [this]
    exact GoesR.mk hP h31 hfu (by omega) hA (fun _ _ => rfl) h32 (Nat.le_refl _) hcn (fun _ _ _ _ _ => rfl)
  | cons q l ih =>
    intro h fu cn s D hI hA hP hD hL hh h31 hfu he h32 hcn hc0 hl
    have hlen : (q :: l).length = l.length + 1 := rfl
    rw [hlen] at hh h31 he
    have ec : D ++ catE (q :: l) = (D ++ q.2) ++ catE l := by unfold catE; simp
    have hq := hI q (List.mem_cons_self ..)
    have e0 := he 0 q rfl
    rw [show h + (l.length + 1 - 1 - 0) = h + l.length by omega] at e0
    have g := hq.2 (h + l.length) fu cn s D hA hP hD hL (by omega) (by rw [h31, Nat.add_assoc]) hfu e0 h32 hcn hc0 hl
    rw [ec]
    refine g.seq (fun s' fu' cn' a1 a2 a3 a4 a5 a6 a7 a8 a9 a10 => ?_)
    have hl2 : (D ++ q.2).length = D.length + q.2.length := len_app
    have hq1 := hq.1
    refine (ih h fu' cn' s' (D ++ q.2) (fun p hp => hI p (List.mem_cons_of_mem _ hp)) a5 a1 a2 (by omega) (by omega) a3 a4 (fun i p hp => ?_) a7 a9 (by omega) (fun j c x y z => ?_)).base (fun i hi => a6 i (by omega)) a8 a10
    · have hi : i < l.length := by
        rcases Nat.lt_or_ge i l.length with z | z
        · exact z
        · rw [List.getElem?_eq_none z] at hp; cases hp
      rw [a6 _ (by omega)]
      have := he (i + 1) p (by simpa using hp)
      rw [show h + (l.length + 1 - 1 - (i + 1)) = h + (l.length - 1 - i) by omega] at this
      exact this
    · rw [a10 j c x y (by omega)]; exact hl j c x y z
/-- the pushes that a term makes -/
def pushes : List QD → Nat → StT → StT
  | [], _, s => s
  | q :: l, h, s => pushes l (h + 1) (psh s h q.1 q.2.1 q.2.2.1 q.2.2.2)
theorem psh_ch {s : StT} {h : Nat} {x1 x2 x3 x4 : Int32} (j : Nat) (hj : 36 < j) : (psh s h x1 x2 x3 x4).2.1 j = s.2.1 j := by
  unfold psh; simp only [uF_2, uA_21]; rw [if_neg (by omega), if_neg (by omega), if_neg (by omega), if_neg (by omega)]
theorem pushes_ok : ∀ (l : List QD) (h : Nat) (s : StT), h + l.length < 30000 → s.1 31 = nI h → AgW s (pushes l h s) ∧ (∀ D, PgM s D → PgM (pushes l h s) D) ∧ (pushes l h s).1 31 = nI (h + l.length) ∧ (∀ i, i < h → ent (pushes l h s) i = ent s i) ∧ (∀ i q, l[i]? = some q → ent (pushes l h s) (h + i) = q) ∧ ∀ j, 36 < j → (pushes l h s).2.1 j = s.2.1 j := by
  intro l
  induction l with
  | nil => intro h s _ h31; exact ⟨AgW.rf _, fun _ h => h, h31, fun _ _ => rfl, fun i q hq => by simp at hq, fun _ _ => rfl⟩
  | cons p l ih =>
    intro h s hh h31
    have hlen : (p :: l).length = l.length + 1 := rfl
    rw [hlen] at hh ⊢
    obtain ⟨a1, a2, a3, a4, a5, a6⟩ := ih (h + 1) (psh s h p.1 p.2.1 p.2.2.1 p.2.2.2) (by omega) psh_31
    rw [pushes]
    refine ⟨(psh_ag ..).tr a1, fun D hD => a2 D (psh_pg hD ..), by rw [a3, show h + 1 + l.length = h + (l.length + 1) by omega], fun i hi => ?_, fun i q hq => ?_, fun j hj => ?_⟩
    · rw [a4 i (by omega), psh_ent (by omega), if_neg (by omega)]
    · cases i with
      | zero =>
        have : p = q := by simpa using hq
        rw [show h + 0 = h from rfl, a4 h (by omega), psh_ent (by omega), if_pos rfl, this]
      | succ i =>
        have := a5 i q (by simpa using hq)
        rw [show h + (i + 1) = h + 1 + i by omega]; exact this
    · rw [a6 j hj, psh_ch j hj]
/-- the beginning of a term that has parts -/
theorem headR {n : Nat} {sM s : StT} {D : List Nat} {h r k n0 cn dp : Nat} {NU : Nat → Nat} {x : Int32} (hA : AgTM sM s) (hP : PgM s D) (hh : h < 29000) (hr : r < 60000) (hk : k ∈ [65, 67, 70, 73, 74, 76, 80, 83, 88]) (h14 : sM.2.1 14 r = nI k) (hcn : cn ≤ 60000) (hc : CHn s cn NU n0 x) :
    ∃ s3, f_X12_putTerm n (uF s 31 (nI h)) (nI r) x (nI dp) = f_X12_putTerm_122 n s3 (nI r) x (nI dp) (nI k) (nI n0) ∧ PgM s3 (D ++ [k] ++ [40]) ∧ s3.1 31 = nI (h + 1) ∧ AgW s s3 ∧ (∀ i, ent s3 i = if i = h then (0, nI 41, 0, 0) else ent s i) ∧ ∀ j, 36 < j → s3.2.1 j = s.2.1 j := by
  have hk128 : k < 128 ∧ k ≠ 77 ∧ k ≠ 72 ∧ k ≠ 84 := (show ∀ k, k ∈ [65, 67, 70, 73, 74, 76, 80, 83, 88] → k < 128 ∧ k ≠ 77 ∧ k ≠ 72 ∧ k ≠ 84 by decide) k hk
  have e14 : (uF s 31 (nI h)).2.1 14 r = nI k := by show s.2.1 14 r = _; rw [hA.2.1 14 (by decide) (by decide)]; exact h14
  obtain ⟨s1, p1, p2, p3⟩ := putM (n := n) (PgM.pop hP (nI h)) hk128.1
  obtain ⟨s2, q1, q2, q3⟩ := putM (n := n) (b := 40) p2 (by omega)
  have A2 : AgW s s2 := ((AgW.pop s (nI h)).tr p3.toW).tr q3.toW
  have h31 : s2.1 31 = nI h := by rw [q3.1 31 (by decide), p3.1 31 (by decide)]; rfl
  refine ⟨psh s2 h 0 (nI 41) 0 0, ?_, psh_pg q2 .., psh_31, A2.tr (psh_ag ..), fun i => ?_, fun j hj => ?_⟩
  · unfold f_X12_putTerm
    rw [inB_nI hr (by omega), if_pos rfl, nI_cl (show r < 2 ^ 31 by omega), e14, if_neg (show ¬ nI k = (77 : Int32) from fun e => hk128.2.1 (nI_inj (b := 77) (by omega) (by omega) e)), if_neg (show ¬ nI k = (72 : Int32) from fun e => hk128.2.2.1 (nI_inj (b := 72) (by omega) (by omega) e)), p1, Option.bind_some, if_neg (show ¬ nI k = (84 : Int32) from fun e => hk128.2.2.2 (nI_inj (b := 84) (by omega) (by omega) e)), show (40 : Int32) = nI 40 from rfl, q1, Option.bind_some, show (41 : Int32) = nI 41 from rfl, pushM h31 (by omega), Option.bind_some]
    rcases hc.count hcn with ⟨e1, e2⟩ | ⟨c, e1, e2, e3⟩
    · rw [e2, e1, if_neg (show ¬ (0 : Int32) ≤ -1 by decide)]; rfl
    · have e39 : (psh s2 h 0 (nI 41) 0 0).2.1 39 c = nI n0 := by
        rw [psh_ch 39 (by decide), A2.2.1 39 (by decide) (by decide) (by decide) (by decide) (by decide)]; exact e3
      rw [e2, if_pos (nI_pos' (by omega)), inB_nI e1 (by omega), if_pos rfl, nI_cl (by omega), e39]
  · rw [psh_ent (by omega), q3.entq, p3.entq]; rfl
  · rw [psh_ch j hj]
    have : j ≠ 8 ∧ j ≠ 33 ∧ j ≠ 34 ∧ j ≠ 35 ∧ j ≠ 36 := by omega
    exact A2.2.1 j this.1 this.2.1 this.2.2.1 this.2.2.2.1 this.2.2.2.2
/-- a term with parts: what is pushed is written -/
theorem tailR {n : Nat} {sM s s3 s4 : StT} {D D1 : List Nat} {h fu cn cn1 : Nat} (Q : List (QD × List Nat)) (hA : AgTM sM s4) (hP : PgM s4 D1) (hD1 : D1.length = D.length + 2) (hh : 2 * h ≤ 5 * D.length) (hQ : Q.length ≤ 6) (h31 : s4.1 31 = nI (h + Q.length)) (hfu : KT ≤ fu + 60001 * D1.length) (h1 : 1 ≤ fu) (he : ∀ i q, Q[i]? = some q → ent s4 (h + (Q.length - 1 - i)) = q.1) (hlow : ∀ i, i < h → ent s4 i = ent s i) (h32 : s4.1 32 = nI cn1) (hc : cn ≤ cn1) (hc2 : cn1 ≤ 20 + D1.length) (hch : ∀ j c, 36 < j → j < 40 → c < cn → s4.2.1 j c = s.2.1 j c) (hI : ∀ q, q ∈ Q → IT n sM s4 cn1 D1.length q.1 q.2) : GoesR n sM s (f_X12_writeAll_0 n fu s4) (D1 ++ catE Q) h cn := by
  have g : GoesR n sM s4 (f_X12_writeAll_0 n fu s4) D1 (h + Q.length) cn1 := GoesR.mk hP h31 hfu h1 hA (fun _ _ => rfl) h32 (Nat.le_refl _) hc2 (fun _ _ _ _ _ => rfl)
  have g2 : GoesR n sM s4 (f_X12_writeAll_0 n fu s4) (D1 ++ catE Q) h cn1 := by
    refine g.seq (fun s' fu' cn' a1 a2 a3 a4 a5 a6 a7 a8 a9 a10 => ?_)
    refine (runIT Q h fu' cn' s' D1 hI a5 a1 a2 (Nat.le_refl _) (by omega) a3 a4 (fun i q hq => ?_) a7 a9 a8 a10).base (fun i hi => a6 i (by omega)) a8 a10
    have hi : i < Q.length := by
      rcases Nat.lt_or_ge i Q.length with z | z
      · exact z
      · rw [List.getElem?_eq_none z] at hq; cases hq
    rw [a6 _ (by omega)]
    exact he i q hq
  exact g2.base hlow hc hch
