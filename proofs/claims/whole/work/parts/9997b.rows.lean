/-! ===== the rows of LEFT ===== -/
theorem n60a {d i : Nat} : nI d * (60 : Int32) + nI i = nI (60 * d + i) := by
  rw [show (60 : Int32) = nI 60 from rfl, nI_mul, nI_add, Nat.mul_comm]
theorem n60b {d i : Nat} : (60 : Int32) * nI d + nI i = nI (60 * d + i) := by
  rw [show (60 : Int32) = nI 60 from rfl, nI_mul, nI_add]
def RC (s : StT) (d z : Nat) (fm tc : Nat → Nat) (g : Nat) : Prop := s.2.1 23 d = nI z ∧ z ≤ 60 ∧ s.2.1 24 d = nI g ∧ ∀ i, i < z → s.2.1 21 (60 * d + i) = nI (fm i) ∧ s.2.1 22 (60 * d + i) = nI (tc i)
def RM (s : StT) (d z : Nat) (fm tr md : Nat → Nat) (g ar : Nat) : Prop := s.2.1 22 d = nI z ∧ z ≤ 60 ∧ s.2.1 23 d = nI g ∧ s.2.1 24 d = nI ar ∧ ∀ i, i < z → s.2.1 19 (60 * d + i) = nI (fm i) ∧ s.2.1 20 (60 * d + i) = nI (tr i) ∧ s.2.1 21 (60 * d + i) = nI (md i)
theorem rowC {n : Nat} {s : StT} {d : Nat} (hd : d < 201) : f_X6_isRow n s (nI d) = some (1, s) := by
  unfold f_X6_isRow
  rw [if_neg (nI_nneg (by omega)), if_neg (show ¬ (201 : Int32) ≤ nI d from fun e => absurd ((nI_leI (a := 201) (by omega) (by omega)).mp e) (by omega))]
theorem sizeC {n : Nat} {s : StT} {d z g : Nat} {fm tc : Nat → Nat} (h : RC s d z fm tc g) (hd : d < 201) : f_X6_sizeOf n s (nI d) = some (nI z, s) := by
  unfold f_X6_sizeOf
  rw [rowC hd, Option.bind_some]
  simp only []
  rw [if_neg (by decide), inB_nI hd (by omega), if_pos rfl, nI_cl (by omega), h.1]
theorem goalC {n : Nat} {s : StT} {d z g : Nat} {fm tc : Nat → Nat} (h : RC s d z fm tc g) (hd : d < 201) : f_X6_goalOf n s (nI d) = some (nI g, s) := by
  unfold f_X6_goalOf
  rw [rowC hd, Option.bind_some]
  simp only []
  rw [if_neg (by decide), inB_nI hd (by omega), if_pos rfl, nI_cl (by omega), h.2.2.1]
theorem isAtC {n : Nat} {s : StT} {d z g i : Nat} {fm tc : Nat → Nat} (h : RC s d z fm tc g) (hd : d < 201) (hi : i < z) : f_X6_isAt n s (nI d) (nI i) = some (1, s) := by
  have hz := h.2.1
  unfold f_X6_isAt
  rw [if_neg (show ¬ nI d < 0 from nI_nneg (by omega)), if_neg (show ¬ (201 : Int32) ≤ nI d from fun e => absurd ((nI_leI (a := 201) (by omega) (by omega)).mp e) (by omega)), if_neg (show ¬ nI i < 0 from nI_nneg (by omega)), inB_nI hd (by omega), if_pos rfl, nI_cl (by omega), h.1, if_neg (fun e => absurd ((nI_leI (by omega) (by omega)).mp e) (by omega)), if_neg (show ¬ (60 : Int32) ≤ nI i from fun e => absurd ((nI_leI (a := 60) (by omega) (by omega)).mp e) (by omega))]
theorem fAtC {n : Nat} {s : StT} {d z g i : Nat} {fm tc : Nat → Nat} (h : RC s d z fm tc g) (hd : d < 201) (hi : i < z) : f_X6_formulaAt n s (nI d) (nI i) = some (nI (fm i), s) ∧ f_X6_termAt n s (nI d) (nI i) = some (nI (tc i), s) := by
  have hz := h.2.1
  have hr := h.2.2.2 i hi
  refine ⟨?_, ?_⟩
  · unfold f_X6_formulaAt
    rw [isAtC h hd hi, Option.bind_some]
    simp only []
    rw [if_neg (show ¬ (1 : Int32) = 0 by decide), n60a, inB_nI (show 60 * d + i < 12060 by omega) (by omega), if_pos rfl, nI_cl (by omega), hr.1]
  · unfold f_X6_termAt
    rw [isAtC h hd hi, Option.bind_some]
    simp only []
    rw [if_neg (show ¬ (1 : Int32) = 0 by decide), n60a, inB_nI (show 60 * d + i < 12060 by omega) (by omega), if_pos rfl, nI_cl (by omega), hr.2]
def pixF (fm : Nat → Nat) (f : Nat) : Nat → Nat → Option Nat
  | 0, _ => none
  | d + 1, i => if fm i = f then some i else pixF fm f d (i + 1)
def pix (fm : Nat → Nat) (f z : Nat) : Option Nat := pixF fm f z 0
theorem pixF_some {fm : Nat → Nat} {f : Nat} : ∀ {d i j : Nat}, pixF fm f d i = some j → i ≤ j ∧ j < i + d ∧ fm j = f := by
  intro d
  induction d with
  | zero => intro i j h; exact absurd h (by simp [pixF])
  | succ d ih =>
    intro i j h
    unfold pixF at h
    by_cases c : fm i = f
    · rw [if_pos c] at h; rw [← Option.some.inj h]; exact ⟨Nat.le_refl _, by omega, c⟩
    · rw [if_neg c] at h; have := ih h; exact ⟨by omega, by omega, this.2.2⟩
theorem pixF_none {fm : Nat → Nat} {f : Nat} : ∀ {d i : Nat}, pixF fm f d i = none → ∀ j, i ≤ j → j < i + d → fm j ≠ f := by
  intro d
  induction d with
  | zero => intro i h j h1 h2; omega
  | succ d ih =>
    intro i h j h1 h2
    unfold pixF at h
    by_cases c : fm i = f
    · rw [if_pos c] at h; exact absurd h (by simp)
    · rw [if_neg c] at h
      by_cases e : j = i
      · rw [e]; exact c
      · exact ih h j (by omega) (by omega)
theorem pix_some {fm : Nat → Nat} {f z j : Nat} (h : pix fm f z = some j) : j < z ∧ fm j = f := by
  have := pixF_some h; exact ⟨by omega, this.2.2⟩
theorem pix_none {fm : Nat → Nat} {f z : Nat} (h : pix fm f z = none) : ∀ j, j < z → fm j ≠ f := fun j hj => pixF_none h j (Nat.zero_le _) (by omega)
theorem ixC_loop {n : Nat} {s : StT} {d z g f : Nat} {fm tc : Nat → Nat} (h : RC s d z fm tc g) (hd : d < 201) (hb : ∀ i, i < z → fm i < 100000) (hf : f < 100000) : ∀ (k i fu : Nat), i + k = z → k < fu → f_X6_indexOf_30 n fu s (nI d) (nI f) (nI z) (nI i) = some (oI (pixF fm f k i), s) := by
  have hz := h.2.1
  intro k
  induction k with
  | zero =>
    intro i fu hi hfu
    obtain ⟨fu, rfl⟩ : ∃ q, fu = q + 1 := ⟨fu - 1, by omega⟩
    rw [f_X6_indexOf_30, if_pos ((nI_leI (by omega) (by omega)).mpr (by omega))]
    rfl
  | succ k ih =>
    intro i fu hi hfu
    obtain ⟨fu, rfl⟩ : ∃ q, fu = q + 1 := ⟨fu - 1, by omega⟩
    have := hb i (by omega)
    rw [f_X6_indexOf_30, if_neg (fun e => absurd ((nI_leI (by omega) (by omega)).mp e) (by omega)), n60a, inB_nI (show 60 * d + i < 12060 by omega) (by omega), if_pos rfl, nI_cl (by omega), (h.2.2.2 i (by omega)).1]
    unfold pixF
    by_cases c : fm i = f
    · rw [if_pos (by rw [c]), if_pos c]; rfl
    · rw [if_neg (fun e => c (nI_inj (by omega) (by omega) e)), if_neg c, nI_1]
      exact ih (i + 1) fu (by omega) (by omega)
theorem ixC {n : Nat} (hn : 100000 ≤ n) {s : StT} {d z g f : Nat} {fm tc : Nat → Nat} (h : RC s d z fm tc g) (hd : d < 201) (hb : ∀ i, i < z → fm i < 100000) (hf : f < 100000) : f_X6_indexOf n s (nI d) (nI f) = some (oI (pix fm f z), s) := by
  have hz := h.2.1
  unfold f_X6_indexOf
  rw [if_neg (show ¬ nI d < 0 from nI_nneg (by omega)), if_neg (show ¬ (201 : Int32) ≤ nI d from fun e => absurd ((nI_leI (a := 201) (by omega) (by omega)).mp e) (by omega)), inB_nI hd (by omega), if_pos rfl, nI_cl (by omega), h.1, if_neg (show ¬ (60 : Int32) < nI z from fun e => absurd ((nI_ltI (a := 60) (by omega) (by omega)).mp e) (by omega))]
  exact ixC_loop h hd hb hf z 0 n (by omega) (by omega)
theorem ixM_loop {n : Nat} {s : StT} {d z g ar f : Nat} {fm tr md : Nat → Nat} (h : RM s d z fm tr md g ar) (hd : d < 201) (hb : ∀ i, i < z → fm i < 100000) (hf : f < 100000) : ∀ (k i fu : Nat), i + k = z → k < fu → f_X12_findLeft_2 n fu s (nI d) (nI f) (nI i) = some (oI (pixF fm f k i), s) := by
  have hz := h.2.1
  intro k
  induction k with
  | zero =>
    intro i fu hi hfu
    obtain ⟨fu, rfl⟩ : ∃ q, fu = q + 1 := ⟨fu - 1, by omega⟩
    have e : nI z ≤ nI i := (nI_leI (by omega) (by omega)).mpr (by omega)
    rw [f_X12_findLeft_2, inB_nI hd (by omega), if_pos rfl, nI_cl (by omega), h.1, if_pos e, f_X12_findLeft_33, inB_nI hd (by omega), if_pos rfl, nI_cl (by omega), h.1, if_pos e]
    rfl
  | succ k ih =>
    intro i fu hi hfu
    obtain ⟨fu, rfl⟩ : ∃ q, fu = q + 1 := ⟨fu - 1, by omega⟩
    have := hb i (by omega)
    have hr := h.2.2.2.2 i (by omega)
    have e : ¬ nI z ≤ nI i := fun e => absurd ((nI_leI (by omega) (by omega)).mp e) (by omega)
    rw [f_X12_findLeft_2, inB_nI hd (by omega), if_pos rfl, nI_cl (by omega), h.1, if_neg e, n60b, inB_nI (show 60 * d + i < 12060 by omega) (by omega), if_pos rfl, nI_cl (by omega), hr.1]
    unfold pixF
    by_cases c : fm i = f
    · rw [if_pos (by rw [c]), if_pos c, f_X12_findLeft_33, inB_nI hd (by omega), if_pos rfl, nI_cl (by omega), h.1, if_neg e]; rfl
    · rw [if_neg (fun e => c (nI_inj (by omega) (by omega) e)), if_neg c, nI_1]
      exact ih (i + 1) fu (by omega) (by omega)
theorem ixM {n : Nat} (hn : 100000 ≤ n) {s : StT} {d z g ar f : Nat} {fm tr md : Nat → Nat} (h : RM s d z fm tr md g ar) (hd : d < 201) (hb : ∀ i, i < z → fm i < 100000) (hf : f < 100000) : f_X12_findLeft n s (nI d) (nI f) = some (oI (pix fm f z), s) := ixM_loop h hd hb hf z 0 n (by omega) (by have := h.2.1; omega)
/-- what a new row e leaves as it is -/
def LWC (e : Nat) (s s' : StT) : Prop := (∀ j, j ≠ 17 → s'.1 j = s.1 j) ∧ (∀ j, (j < 21 ∨ 24 < j) → s'.2.1 j = s.2.1 j) ∧ (∀ j r, (j = 21 ∨ j = 22) → r < 60 * e → s'.2.1 j r = s.2.1 j r) ∧ (∀ j r, (j = 23 ∨ j = 24) → r < e → s'.2.1 j r = s.2.1 j r) ∧ s'.2.2 = s.2.2
def LWM (e : Nat) (s s' : StT) : Prop := (∀ j, j ≠ 22 → j ≠ 24 → s'.1 j = s.1 j) ∧ (∀ j, (j < 19 ∨ 24 < j) → s'.2.1 j = s.2.1 j) ∧ (∀ j r, (18 < j ∧ j < 22) → r < 60 * e → s'.2.1 j r = s.2.1 j r) ∧ (∀ j r, (21 < j ∧ j < 25) → r < e → s'.2.1 j r = s.2.1 j r) ∧ s'.2.2 = s.2.2
theorem LWC.rf (e : Nat) (s : StT) : LWC e s s := ⟨fun _ _ => rfl, fun _ _ => rfl, fun _ _ _ _ => rfl, fun _ _ _ _ => rfl, rfl⟩
theorem LWM.rf (e : Nat) (s : StT) : LWM e s s := ⟨fun _ _ _ => rfl, fun _ _ => rfl, fun _ _ _ _ => rfl, fun _ _ _ _ => rfl, rfl⟩
theorem LWC.tr {e : Nat} {a b c : StT} (x : LWC e a b) (y : LWC e b c) : LWC e a c := ⟨fun j h => (y.1 j h).trans (x.1 j h), fun j h => (y.2.1 j h).trans (x.2.1 j h), fun j r h1 h2 => (y.2.2.1 j r h1 h2).trans (x.2.2.1 j r h1 h2), fun j r h1 h2 => (y.2.2.2.1 j r h1 h2).trans (x.2.2.2.1 j r h1 h2), y.2.2.2.2.trans x.2.2.2.2⟩
theorem LWM.tr {e : Nat} {a b c : StT} (x : LWM e a b) (y : LWM e b c) : LWM e a c := ⟨fun j h h2 => (y.1 j h h2).trans (x.1 j h h2), fun j h => (y.2.1 j h).trans (x.2.1 j h), fun j r h1 h2 => (y.2.2.1 j r h1 h2).trans (x.2.2.1 j r h1 h2), fun j r h1 h2 => (y.2.2.2.1 j r h1 h2).trans (x.2.2.2.1 j r h1 h2), y.2.2.2.2.trans x.2.2.2.2⟩
theorem RC.lo {s s' : StT} {d e z g : Nat} {fm tc : Nat → Nat} (h : RC s d z fm tc g) (q : LWC e s s') (hd : d < e) : RC s' d z fm tc g := ⟨by rw [q.2.2.2.1 23 d (by decide) hd]; exact h.1, h.2.1, by rw [q.2.2.2.1 24 d (by decide) hd]; exact h.2.2.1, fun i hi => by
  have := h.2.1
  rw [q.2.2.1 21 _ (by decide) (by omega), q.2.2.1 22 _ (by decide) (by omega)]; exact h.2.2.2 i hi⟩
theorem RM.lo {s s' : StT} {d e z g ar : Nat} {fm tr md : Nat → Nat} (h : RM s d z fm tr md g ar) (q : LWM e s s') (hd : d < e) : RM s' d z fm tr md g ar := ⟨by rw [q.2.2.2.1 22 d (by decide) hd]; exact h.1, h.2.1, by rw [q.2.2.2.1 23 d (by decide) hd]; exact h.2.2.1, by rw [q.2.2.2.1 24 d (by decide) hd]; exact h.2.2.2.1, fun i hi => by
  have := h.2.1
  rw [q.2.2.1 19 _ (by decide) (by omega), q.2.2.1 20 _ (by decide) (by omega), q.2.2.1 21 _ (by decide) (by omega)]; exact h.2.2.2.2 i hi⟩
/-- all but the one at w -/
def skp (w j : Nat) : Nat := if j < w then j else j + 1
def nz (z w : Nat) : Nat := if w < z then z - 1 else z
theorem followC_loop {n : Nat} {s0 : StT} {d z g w : Nat} {fm tc : Nat → Nat} {wI : Int32} (h : RC s0 d z fm tc g) (hd : d + 1 < 201) (hw : ∀ i, i < z → (nI i = wI ↔ i = w)) : ∀ (k i fu : Nat) (s : StT), i + k = z → k < fu → LWC (d + 1) s0 s → s.1 = s0.1 → s.2.1 24 (d + 1) = s0.2.1 24 (d + 1) → (∀ j, j < (if i ≤ w then i else i - 1) → s.2.1 21 (60 * (d + 1) + j) = nI (fm (skp w j)) ∧ s.2.1 22 (60 * (d + 1) + j) = nI (tc (skp w j))) →
    ∃ s', f_X6_follow_35 n fu s (nI d) wI (nI (d + 1)) (nI (if i ≤ w then i else i - 1)) (nI i) = some s' ∧ LWC (d + 1) s0 s' ∧ s'.1 = s0.1 ∧ s'.2.1 24 (d + 1) = s0.2.1 24 (d + 1) ∧ s'.2.1 23 (d + 1) = nI (nz z w) ∧ ∀ j, j < nz z w → s'.2.1 21 (60 * (d + 1) + j) = nI (fm (skp w j)) ∧ s'.2.1 22 (60 * (d + 1) + j) = nI (tc (skp w j)) := by
  have hz := h.2.1
  intro k
  induction k with
  | zero =>
    intro i fu s hi hfu q e1 e24 er
    obtain ⟨fu, rfl⟩ : ∃ z, fu = z + 1 := ⟨fu - 1, by omega⟩
    have hr := h.lo q (Nat.lt_succ_self d)
    have enz : (if i ≤ w then i else i - 1) = nz z w := by unfold nz; split <;> split <;> omega
    rw [f_X6_follow_35, inB_nI (show d < 201 by omega) (by omega), if_pos rfl, nI_cl (by omega), hr.1, if_pos ((nI_leI (by omega) (by omega)).mpr (by omega)), inB_nI hd (by omega), if_pos rfl, enz]
    rw [enz] at er
    refine ⟨_, rfl, ⟨q.1, fun j hj => ?_, fun j r h1 h2 => ?_, fun j r h1 h2 => ?_, q.2.2.2.2⟩, e1, ?_, ?_, fun j hj => ?_⟩
    · simp only [uA_21]; rw [if_neg (by omega)]; exact q.2.1 j hj
    · simp only [uA_21]; rw [if_neg (by omega)]; exact q.2.2.1 j r h1 h2
    · simp only [uA_21]
      by_cases c : j = 23
      · rw [if_pos c, upd_j, nI_cl (by omega), if_neg (by omega)]; exact q.2.2.2.1 j r h1 h2
      · rw [if_neg c]; exact q.2.2.2.1 j r h1 h2
    · simp only [uA_21, if_neg (show ¬ (24 : Nat) = 23 by decide)]; exact e24
    · simp only [uA_21, if_true, upd_j, nI_cl (show d + 1 < 2 ^ 31 by omega)]
    · simp only [uA_21, if_neg (show ¬ (21 : Nat) = 23 by decide), if_neg (show ¬ (22 : Nat) = 23 by decide)]; exact er j hj
  | succ k ih =>
    intro i fu s hi hfu q e1 e24 er
    obtain ⟨fu, rfl⟩ : ∃ z, fu = z + 1 := ⟨fu - 1, by omega⟩
    have hr := h.lo q (Nat.lt_succ_self d)
    have hri := hr.2.2.2 i (by omega)
    rw [f_X6_follow_35, inB_nI (show d < 201 by omega) (by omega), if_pos rfl, nI_cl (by omega), hr.1, if_neg (fun e => absurd ((nI_leI (by omega) (by omega)).mp e) (by omega)), if_neg (show ¬ (60 : Int32) ≤ nI i from fun e => absurd ((nI_leI (a := 60) (by omega) (by omega)).mp e) (by omega))]
    by_cases c : i = w
    · rw [if_pos ((hw i (by omega)).mpr c), nI_1]
      have := ih (i + 1) fu s (by omega) (by omega) q e1 e24 (fun j hj => er j (by
        rw [if_neg (by omega)] at hj
        rw [if_pos (by omega)]; omega))
      rw [show (if i + 1 ≤ w then i + 1 else i + 1 - 1) = (if i ≤ w then i else i - 1) by split <;> split <;> omega] at this
      exact this
    · rw [if_neg (fun e => c ((hw i (by omega)).mp e))]
      generalize hs : (if i ≤ w then i else i - 1) = sz at er ⊢
      have hsz : sz ≤ i := by rw [← hs]; split <;> omega
      have hsk : skp w sz = i := by unfold skp; rw [← hs]; split <;> split <;> omega
      have hs1 : (if i + 1 ≤ w then i + 1 else i + 1 - 1) = sz + 1 := by rw [← hs]; split <;> split <;> omega
      simp only [n60a, inB_nI (show 60 * d + i < 12060 by omega) (by omega), inB_nI (show 60 * (d + 1) + sz < 12060 by omega) (by omega), if_true, nI_cl (show 60 * d + i < 2 ^ 31 by omega), uA_21, if_neg (show ¬ (22 : Nat) = 21 by decide), hri.1, hri.2, nI_1]
      have := ih (i + 1) fu (uA (uA s 21 (nI (60 * (d + 1) + sz)) (nI (fm i))) 22 (nI (60 * (d + 1) + sz)) (nI (tc i))) (by omega) (by omega) ⟨q.1, fun j hj => by simp only [uA_21]; rw [if_neg (by omega), if_neg (by omega)]; exact q.2.1 j hj, fun j r h1 h2 => ?_, fun j r h1 h2 => by simp only [uA_21]; rw [if_neg (by omega), if_neg (by omega)]; exact q.2.2.2.1 j r h1 h2, q.2.2.2.2⟩ e1 (by simp only [uA_21, if_neg (show ¬ (24 : Nat) = 22 by decide), if_neg (show ¬ (24 : Nat) = 21 by decide)]; exact e24) (fun j hj => ?_)
      · rw [hs1] at this; exact this
      · simp only [uA_21]
        have e : ∀ (g : Nat → Int32) (x : Int32), upd g (nI (60 * (d + 1) + sz)).toNatClampNeg x r = g r := fun g x => by rw [upd_j, nI_cl (by omega), if_neg (by omega)]
        rcases h1 with rfl | rfl
        · simp only [if_neg (show ¬ (21 : Nat) = 22 by decide), if_true, e]; exact q.2.2.1 21 r (by decide) h2
        · simp only [if_neg (show ¬ (22 : Nat) = 21 by decide), if_true, e]; exact q.2.2.1 22 r (by decide) h2
      · rw [hs1] at hj
        simp only [uA_21, if_neg (show ¬ (21 : Nat) = 22 by decide), if_neg (show ¬ (22 : Nat) = 21 by decide), if_true, upd_j, nI_cl (show 60 * (d + 1) + sz < 2 ^ 31 by omega)]
        by_cases cj : j = sz
        · rw [if_pos (by omega), if_pos (by omega), cj, hsk]; exact ⟨rfl, rfl⟩
        · rw [if_neg (by omega), if_neg (by omega)]; exact er j (by omega)
theorem followC {n : Nat} (hn : 100000 ≤ n) {s : StT} {d z g w g' : Nat} {fm tc : Nat → Nat} {wI : Int32} (h : RC s d z fm tc g) (hd : d + 1 < 201) (hw : ∀ i, i < z → (nI i = wI ↔ i = w)) : ∃ s', f_X6_follow n s (nI d) wI (nI g') = some s' ∧ LWC (d + 1) s s' ∧ s'.1 = s.1 ∧ RC s' (d + 1) (nz z w) (fun j => fm (skp w j)) (fun j => tc (skp w j)) g' := by
  have hz := h.2.1
  have q0 : LWC (d + 1) s (uA s 24 (nI (d + 1)) (nI g')) := ⟨fun _ _ => rfl, fun j hj => by simp only [uA_21]; rw [if_neg (by omega)], fun j r h1 h2 => by simp only [uA_21]; rw [if_neg (by omega)], fun j r h1 h2 => by
    simp only [uA_21]
    by_cases c : j = 24
    · rw [if_pos c, upd_j, nI_cl (by omega), if_neg (by omega)]
    · rw [if_neg c], rfl⟩
  obtain ⟨s', e1, e2, e3, e4, e5, e6⟩ := followC_loop (n := n) (h.lo q0 (Nat.lt_succ_self d)) hd hw z 0 n (uA s 24 (nI (d + 1)) (nI g')) (by omega) (by omega) (LWC.rf _ _) rfl rfl (fun j hj => by rw [if_pos (by omega)] at hj; omega)
  refine ⟨s', ?_, q0.tr e2, e3, ⟨e5, by unfold nz; split <;> omega, ?_, e6⟩⟩
  · unfold f_X6_follow
    rw [rowC (by omega), Option.bind_some]
    simp only []
    rw [if_neg (by decide), nI_1, rowC hd, Option.bind_some]
    simp only []
    rw [if_neg (by decide), inB_nI hd (by omega), if_pos rfl]
    rw [if_pos (Nat.zero_le w)] at e1
    exact e1
  · rw [e4]; simp only [uA_21, if_true, upd_j, nI_cl (show d + 1 < 2 ^ 31 by omega)]
