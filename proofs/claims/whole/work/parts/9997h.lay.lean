/-! ===== a premise's row, and what can be reduced ===== -/
theorem lay2 {n : Nat} (hn : 100000 ≤ n) {sC sM : StT} {F NC NR d w g' ar' : Nat} {R : RW} {S' : Nat → Nat} {wI : Int32} (h : RR sC sM F NC NR d R) (hd : d + 1 < 201) (hw : ∀ i, i < zz R → (nI i = wI ↔ i = w)) (hg : g' < F) (ha : (ar' = aR R ∨ (ar' = aR R + 1 ∧ S' (aR R) < NC ∧ sC.2.1 16 (S' (aR R)) = 104 ∧ ∀ i, i < zz R → tcR R i < S' (aR R)))) (hS : ∀ k, k < aR R → S' k = sR R k) :
    ∃ sC' sM', f_X6_follow n sC (nI d) wI (nI g') = some sC' ∧ f_X12_within n sM (nI d) wI (nI g') (nI ar') = some sM' ∧ LWC (d + 1) sC sC' ∧ LWM (d + 1) sM sM' ∧ sC'.1 = sC.1 ∧ sM'.1 = sM.1 ∧ RR sC' sM' F NC NR (d + 1) (nz (zz R) w, (fun j => fmR R (skp w j)), (fun j => tcR R (skp w j)), (fun j => trR R (skp w j)), (fun j => mdR R (skp w j)), g', ar', S') := by
  obtain ⟨a1, a2, a3, a4, a5, a6⟩ := h
  obtain ⟨sC', c1, c2, c3, c4⟩ := followC hn (g' := g') a1 hd hw
  obtain ⟨sM', m1, m2, m3, m4⟩ := withinM hn (g' := g') (ar' := ar') a2 hd hw
  have kC := c2.kg NC
  have kM := m2.kg NR
  have hlt0 : ∀ j, j < nz (zz R) w → skp w j < zz R := fun j hj => by unfold nz at hj; unfold skp; split at hj <;> split <;> omega
  refine ⟨sC', sM', c1, m1, c2, m2, c3, m3, c4, m4, hg, by rcases ha with ha | ha <;> (show ar' ≤ _; omega), fun j hj => ?_, fun k hk => ?_⟩
  · have hj : j < nz (zz R) w := hj
    have hlt : skp w j < zz R := by unfold nz at hj; unfold skp; split at hj <;> split <;> omega
    obtain ⟨b1, b2, b3, b4, b5⟩ := a5 _ hlt
    exact ⟨b1, by show mdR R (skp w j) ≤ ar'; rcases ha with ha | ha <;> omega, b3, b4, b5.kg (Nat.le_refl _) (fun k hk => hS k (by omega)) kC kM b3 b4⟩
  · have hk : k < ar' := hk
    show S' k < NC ∧ sC'.2.1 16 (S' k) = 104 ∧ ∀ j, j < nz (zz R) w → mdR R (skp w j) ≤ k → NBx sC' (tcR R (skp w j)) (S' k)
    by_cases c : k < aR R
    · have := a6 k c
      rw [hS k c, kC.2.2 16 _ (by decide) (by decide) this.1]; exact ⟨this.1, this.2.1, fun j hj hm => by
        have b3 := (a5 _ (hlt0 j hj)).2.2.1
        exact (this.2.2 _ (hlt0 j hj) hm).mv (kC.2.2 16 _ (by decide) (by decide) b3) (kC.2.2 20 _ (by decide) (by decide) b3) (fun _ => kC.2.2 17 _ (by decide) (by decide) b3)⟩
    · rcases ha with ha | ⟨ha, hb1, hb2, hb3⟩
      · omega
      · rw [show k = aR R by omega, kC.2.2 16 _ (by decide) (by decide) hb1]; exact ⟨hb1, hb2, fun j hj _ => Or.inl (hb3 _ (hlt0 j hj))⟩
/-- a formula comes on both sides -/
theorem comes2 {n : Nat} (hn : 100000 ≤ n) {sC sM : StT} {F NC NR e f c r m mo : Nat} {R : RW} (h : RR sC sM F NC NR e R) (he : e < 201) (hF : F ≤ 2000) (hf : f < F) (hm : m ≤ aR R) (hmc : ∀ k, m ≤ k → k < aR R → NBx sC c (sR R k)) (hc : c < NC) (hr : r < NR) (ht : TTx sC sM F c r m (sR R)) (h17 : sC.1 17 = nI mo) (h22 : sM.1 22 = nI mo) (hmo : mo ≤ 60) :
    (∃ R' sC' sM' mo', f_X6_comes n sC (nI e) (nI f) (nI c) = some (1, sC') ∧ f_X12_comes n sM (nI e) (nI f) (nI r) (nI m) = some (1, sM') ∧ RR sC' sM' F NC NR e R' ∧ gR R' = gR R ∧ aR R' = aR R ∧ sR R' = sR R ∧ zz R ≤ zz R' ∧ (∀ i, i < zz R → fmR R' i = fmR R i) ∧ LWC e sC sC' ∧ LWM e sM sM' ∧ sM'.1 24 = sM.1 24 ∧ sC'.1 17 = nI mo' ∧ sM'.1 22 = nI mo' ∧ mo' ≤ 60)
    ∨ (f_X6_comes n sC (nI e) (nI f) (nI c) = some (0, sC) ∧ f_X12_comes n sM (nI e) (nI f) (nI r) (nI m) = some (0, uF sM 24 (-7))) := by
  obtain ⟨a1, a2, a3, a4, a5, a6⟩ := h
  have hz := a1.2.1
  have hb : ∀ i, i < zz R → fmR R i < 100000 := fun i hi => by have := (a5 i hi).1; omega
  rw [comesC hn a1 he hb (by omega) h17 (by omega), comesM hn a2 he hb (by omega) h22 (by omega)]
  by_cases c1 : (pix (fmR R) f (zz R)).isSome = true
  · left
    rw [if_pos c1, if_pos c1]
    exact ⟨R, sC, sM, mo, rfl, rfl, ⟨a1, a2, a3, a4, a5, a6⟩, rfl, rfl, rfl, Nat.le_refl _, fun _ _ => rfl, LWC.rf _ _, LWM.rf _ _, rfl, h17, h22, hmo⟩
  · rw [if_neg c1, if_neg c1]
    by_cases c2 : zz R = 60
    · right; rw [if_pos c2, if_pos c2]; exact ⟨rfl, rfl⟩
    · left
      rw [if_neg c2, if_neg c2]
      obtain ⟨p1, p2, p3⟩ := cmC_row (f := f) (c := c) (mo := mo) a1 he (by omega)
      obtain ⟨q1, q2, q3, q4⟩ := cmM_row (f := f) (r := r) (m := m) (mo := mo) a2 he (by omega)
      have kC := p2.kg NC
      have kM := q2.kg NR
      refine ⟨(zz R + 1, updN (fmR R) (zz R) f, updN (tcR R) (zz R) c, updN (trR R) (zz R) r, updN (mdR R) (zz R) m, gR R, aR R, sR R), _, _, _, rfl, rfl, ⟨p1, q1, a3, a4, fun i hi => ?_, fun k hk => ?_⟩, rfl, rfl, rfl, Nat.le_succ _, fun i hi => ?_, p2, q2, q4, p3, q3, by split <;> omega⟩
      · have hi : i < zz R + 1 := hi
        show updN (fmR R) (zz R) f i < F ∧ updN (mdR R) (zz R) m i ≤ aR R ∧ updN (tcR R) (zz R) c i < NC ∧ updN (trR R) (zz R) r i < NR ∧ TTx _ _ F (updN (tcR R) (zz R) c i) (updN (trR R) (zz R) r i) (updN (mdR R) (zz R) m i) (sR R)
        unfold updN
        by_cases ci : i = zz R
        · simp only [ci, if_true]; exact ⟨hf, hm, hc, hr, ht.kg (Nat.le_refl _) (fun _ _ => rfl) kC kM hc hr⟩
        · simp only [ci, if_false]
          obtain ⟨b1, b2, b3, b4, b5⟩ := a5 i (by omega)
          exact ⟨b1, b2, b3, b4, b5.kg (Nat.le_refl _) (fun _ _ => rfl) kC kM b3 b4⟩
      · have := a6 k hk
        refine ⟨this.1, by rw [kC.2.2 16 _ (by decide) (by decide) this.1]; exact this.2.1, fun i hi hm2 => ?_⟩
        have hi : i < zz R + 1 := hi
        have hm2 : updN (mdR R) (zz R) m i ≤ k := hm2
        show NBx _ (updN (tcR R) (zz R) c i) (sR R k)
        have tr : ∀ c0, c0 < NC → NBx sC c0 (sR R k) → NBx _ c0 (sR R k) := fun c0 b3 z => z.mv (kC.2.2 16 _ (by decide) (by decide) b3) (kC.2.2 20 _ (by decide) (by decide) b3) (fun _ => kC.2.2 17 _ (by decide) (by decide) b3)
        unfold updN at hm2 ⊢
        by_cases ci : i = zz R
        · simp only [ci, if_true] at hm2 ⊢; exact tr _ hc (hmc k hm2 hk)
        · simp only [ci, if_false] at hm2 ⊢; exact tr _ (a5 i (by omega)).2.2.1 (this.2.2 i (by omega) hm2)
      · show updN (fmR R) (zz R) f i = _
        unfold updN; rw [if_neg (by omega)]
/-! what can be reduced -/
theorem msk_bit {t : FT} {vn : Nat} (hw : WFt t vn) {fm : Nat → Nat} : ∀ {z v : Nat}, (∀ i, i < z → fm i < t.1) → v < 32 → (b32 (msk t fm z) v = true ↔ ∃ i, i < z ∧ t.2.1 (fm i) = 2 ∧ t.2.2.1 (fm i) = v) := by
  intro z
  induction z with
  | zero =>
    intro v _ hv
    unfold msk
    rw [b32_0]
    exact ⟨fun e => absurd e (by decide), fun ⟨i, hi, _⟩ => absurd hi (by omega)⟩
  | succ z ih =>
    intro v hb hv
    have hz := hb z (by omega)
    unfold msk
    by_cases c : t.2.1 (fm z) = 2
    · have hvv := (hw.var hz c).1
      have h24 := hw.2.2.2.2.1
      rw [if_pos c, b32_or, b32_shl (by omega) hv, Bool.or_eq_true, ih (fun i hi => hb i (by omega)) hv]
      constructor
      · rintro (⟨i, hi, h2⟩ | h2)
        · exact ⟨i, by omega, h2⟩
        · exact ⟨z, by omega, c, (of_decide_eq_true h2).symm⟩
      · rintro ⟨i, hi, h2, h3⟩
        by_cases ci : i = z
        · right; rw [← h3, ci]; exact decide_eq_true rfl
        · left; exact ⟨i, by omega, h2, h3⟩
    · rw [if_neg c, ih (fun i hi => hb i (by omega)) hv]
      constructor
      · rintro ⟨i, hi, h2⟩; exact ⟨i, by omega, h2⟩
      · rintro ⟨i, hi, h2, h3⟩
        by_cases ci : i = z
        · rw [ci] at h2; exact absurd h2 c
        · exact ⟨i, by omega, h2, h3⟩
theorem msk_in {t : FT} {vn : Nat} (hw : WFt t vn) {fm : Nat → Nat} {z p : Nat} (hb : ∀ i, i < z → fm i < t.1) (hp : p < t.1) (h2 : t.2.1 p = 2) : (b32 (msk t fm z) (t.2.2.1 p) = true ↔ ∃ j, pix fm p z = some j) := by
  have hv := hw.var hp h2
  have h24 := hw.2.2.2.2.1
  rw [msk_bit hw hb (by omega)]
  constructor
  · rintro ⟨i, hi, h3, h4⟩
    have hvi := hw.var (hb i hi) h3
    have : fm i = p := hw.2.2.2.2.2.2 (fm i) p (hb i hi) hp (by rw [h3, h2]) h4 (by rw [hvi.2, hv.2])
    cases hq : pix fm p z with
    | some j => exact ⟨j, rfl⟩
    | none => exact absurd this (pix_none hq i hi)
  · rintro ⟨j, hj⟩
    have := pix_some hj
    exact ⟨j, this.1, by rw [this.2]; exact h2, by rw [this.2]⟩
/-- what a lower row forces, a row above forces too -/
theorem msk_sub {t : FT} {vn : Nat} (hw : WFt t vn) {fm fm' : Nat → Nat} {z z' : Nat} (hb : ∀ i, i < z → fm i < t.1) (hb' : ∀ i, i < z' → fm' i < t.1) (h : ∀ i, i < z → t.2.1 (fm i) = 2 → ∃ j, j < z' ∧ fm' j = fm i) : msk t fm z ||| msk t fm' z' = msk t fm' z' := by
  refine b32_ext (fun v hv => ?_)
  rw [b32_or]
  cases e : b32 (msk t fm z) v with
  | false => rfl
  | true =>
    obtain ⟨i, hi, h2, h3⟩ := (msk_bit hw hb hv).mp e
    obtain ⟨j, hj, hf⟩ := h i hi h2
    have := (msk_bit hw hb' hv).mpr ⟨j, hj, by rw [hf]; exact h2, by rw [hf]; exact h3⟩
    rw [this]; rfl
def isGo (t : FT) (fm : Nat → Nat) (z f : Nat) : Bool := if t.2.1 f = 5 then (if t.2.1 (t.2.2.1 f) = 2 then (pix fm (t.2.2.1 f) z).isSome else decide (t.2.1 (t.2.2.1 f) ≠ 5)) else decide (t.2.1 f = 1 ∨ t.2.1 f = 3 ∨ t.2.1 f = 4)
theorem reduC {n : Nat} {s : StT} {t : FT} {vn z f : Nat} {fm : Nat → Nat} (hC : CFt s t) (hw : WFt t vn) (hb : ∀ i, i < z → fm i < t.1) (hf : f < t.1) : f_X5_isReducible n s (nI f) (msk t fm z) = some (mI (isGo t fm z f), s) := by
  have hk := hw.bd hf
  unfold f_X5_isReducible isGo
  rw [kindOfF0 hC hf, Option.bind_some]
  simp only []
  by_cases c5 : t.2.1 f = 5
  · have hlo := hw.lo hf (by omega)
    have hp : t.2.2.1 f < t.1 := by omega
    have hkp := hw.bd hp
    rw [if_pos (by rw [c5]; rfl), if_pos c5, firstOfF0 hC hf, Option.bind_some]
    simp only []
    rw [kindOfF0 hC hp, Option.bind_some]
    simp only []
    by_cases c2 : t.2.1 (t.2.2.1 f) = 2
    · have hv := hw.var hp c2
      have h24 := hw.2.2.2.2.1
      rw [if_pos (by rw [c2]; rfl), if_pos c2, firstOfF0 hC hp, Option.bind_some]
      simp only []
      rw [tst32u _ (show t.2.2.1 (t.2.2.1 f) < 32 by omega)]
      have hin := msk_in hw hb hp c2
      cases e : pix fm (t.2.2.1 f) z with
      | some j => rw [if_pos (hin.mpr ⟨j, e⟩), if_pos rfl]; rfl
      | none => rw [if_neg (show ¬ b32 (msk t fm z) (t.2.2.1 (t.2.2.1 f)) = true from fun x => by obtain ⟨j, hj⟩ := hin.mp x; rw [e] at hj; cases hj), if_neg (by decide)]; rfl
    · rw [if_neg (show ¬ nI (t.2.1 (t.2.2.1 f)) = (2 : Int32) from fun e => c2 (nI_inj (b := 2) (by omega) (by omega) e)), if_neg c2]
      by_cases c55 : t.2.1 (t.2.2.1 f) = 5
      · rw [if_pos (by rw [c55]; rfl), c55]; rfl
      · rw [if_neg (show ¬ nI (t.2.1 (t.2.2.1 f)) = (5 : Int32) from fun e => c55 (nI_inj (b := 5) (by omega) (by omega) e)), decide_eq_true c55]; rfl
  · rw [if_neg (show ¬ nI (t.2.1 f) = (5 : Int32) from fun e => c5 (nI_inj (b := 5) (by omega) (by omega) e)), if_neg c5]
    rcases (show t.2.1 f = 0 ∨ t.2.1 f = 1 ∨ t.2.1 f = 2 ∨ t.2.1 f = 3 ∨ t.2.1 f = 4 by omega) with e | e | e | e | e <;> (rw [e]; rfl)
theorem goingM {n : Nat} (hn : 100000 ≤ n) {s : StT} {t : FT} {vn d z g ar i : Nat} {fm tr md : Nat → Nat} (hM : MF s t) (hw : WFt t vn) (h : RM s d z fm tr md g ar) (hd : d < 201) (hb : ∀ i, i < z → fm i < t.1) (hi : i < z) : f_X12_isGoing n s (nI d) (nI i) = some (mI (isGo t fm z (fm i)), s) := by
  have hz := h.2.1
  have hl := hw.2.1
  have hf := hb i hi
  have hk := hw.bd hf
  have hr := (h.2.2.2.2 i hi).1
  have hm := hM.2 (fm i) hf
  unfold f_X12_isGoing isGo
  rw [n60b, inB_nI (show 60 * d + i < 12060 by omega) (by omega), if_pos rfl, nI_cl (by omega), hr, inB_nI (show fm i < 4200 by omega) (by omega), if_pos rfl, nI_cl (by omega), hm.1]
  by_cases c5 : t.2.1 (fm i) = 5
  · have hlo := hw.lo hf (by omega)
    have hp : t.2.2.1 (fm i) < t.1 := by omega
    have hkp := hw.bd hp
    have hmp := hM.2 _ hp
    rw [c5, if_neg (by decide), if_neg (by decide), if_neg (by decide), if_pos (by decide), if_pos rfl, hm.2.1, inB_nI (show t.2.2.1 (fm i) < 4200 by omega) (by omega), if_pos rfl, nI_cl (by omega), hmp.1, if_pos rfl]
    have e88 : f_X12_isGoing_88 n s (nI (t.2.2.1 (fm i))) = some (mI (decide (t.2.1 (t.2.2.1 (fm i)) = 3 ∨ t.2.1 (t.2.2.1 (fm i)) = 4)), s) := by
      unfold f_X12_isGoing_88
      rw [inB_nI (show t.2.2.1 (fm i) < 4200 by omega) (by omega), if_pos rfl, nI_cl (by omega), hmp.1, if_pos rfl]
      rcases (show t.2.1 (t.2.2.1 (fm i)) = 0 ∨ t.2.1 (t.2.2.1 (fm i)) = 1 ∨ t.2.1 (t.2.2.1 (fm i)) = 2 ∨ t.2.1 (t.2.2.1 (fm i)) = 3 ∨ t.2.1 (t.2.2.1 (fm i)) = 4 ∨ t.2.1 (t.2.2.1 (fm i)) = 5 by omega) with e | e | e | e | e | e <;> (rw [e]; rfl)
    by_cases c2 : t.2.1 (t.2.2.1 (fm i)) = 2
    · rw [c2, if_neg (by decide), if_pos rfl, if_pos (by decide), ixM hn h hd (fun i hi => by have := hb i hi; omega) (by omega), Option.bind_some]
      simp only [if_true]
      cases e : pix fm (t.2.2.1 (fm i)) z with
      | some j => have := (pix_some e).1; rw [if_pos (show 0 ≤ oI (some j) from nI_nn (by omega))]; rfl
      | none => rw [if_neg (show ¬ 0 ≤ oI none by decide), e88, c2]; rfl
    · rw [if_pos rfl, if_neg c2]
      rcases (show t.2.1 (t.2.2.1 (fm i)) = 0 ∨ t.2.1 (t.2.2.1 (fm i)) = 1 ∨ t.2.1 (t.2.2.1 (fm i)) = 3 ∨ t.2.1 (t.2.2.1 (fm i)) = 4 ∨ t.2.1 (t.2.2.1 (fm i)) = 5 by omega) with e | e | e | e | e
      · rw [e, if_pos (by decide)]; rfl
      · rw [e, if_pos (by decide)]; rfl
      · rw [e88, e, if_neg (by decide), if_neg (by decide)]; rfl
      · rw [e88, e, if_neg (by decide), if_neg (by decide)]; rfl
      · rw [e88, e, if_neg (by decide), if_neg (by decide)]; rfl
  · rw [if_neg c5]
    rcases (show t.2.1 (fm i) = 0 ∨ t.2.1 (fm i) = 1 ∨ t.2.1 (fm i) = 2 ∨ t.2.1 (fm i) = 3 ∨ t.2.1 (fm i) = 4 by omega) with e | e | e | e | e <;> (rw [e]; rfl)
