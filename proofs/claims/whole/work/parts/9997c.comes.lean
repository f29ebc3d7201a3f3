/-! ===== a row laid by the reference, and what COMES ===== -/
theorem withinM_loop {n : Nat} {s0 : StT} {d z g ar w : Nat} {fm tr md : Nat → Nat} {wI x3 x4 : Int32} (h : RM s0 d z fm tr md g ar) (hd : d + 1 < 201) (hw : ∀ i, i < z → (nI i = wI ↔ i = w)) : ∀ (k i fu : Nat) (s : StT), i + k = z → k < fu → LWM (d + 1) s0 s → s.1 = s0.1 → s.2.1 22 (d + 1) = nI (if i ≤ w then i else i - 1) → (∀ j, j < (if i ≤ w then i else i - 1) → s.2.1 19 (60 * (d + 1) + j) = nI (fm (skp w j)) ∧ s.2.1 20 (60 * (d + 1) + j) = nI (tr (skp w j)) ∧ s.2.1 21 (60 * (d + 1) + j) = nI (md (skp w j))) →
    ∃ s', f_X12_within_16 n fu s (nI d) wI x3 x4 (nI (d + 1)) (nI i) = some s' ∧ LWM (d + 1) s0 s' ∧ s'.1 = s0.1 ∧ s'.2.1 22 (d + 1) = nI (nz z w) ∧ s'.2.1 23 (d + 1) = x3 ∧ s'.2.1 24 (d + 1) = x4 ∧ ∀ j, j < nz z w → s'.2.1 19 (60 * (d + 1) + j) = nI (fm (skp w j)) ∧ s'.2.1 20 (60 * (d + 1) + j) = nI (tr (skp w j)) ∧ s'.2.1 21 (60 * (d + 1) + j) = nI (md (skp w j)) := by
  have hz := h.2.1
  intro k
  induction k with
  | zero =>
    intro i fu s hi hfu q e1 e22 er
    obtain ⟨fu, rfl⟩ : ∃ z, fu = z + 1 := ⟨fu - 1, by omega⟩
    have hr := h.lo q (Nat.lt_succ_self d)
    have enz : (if i ≤ w then i else i - 1) = nz z w := by unfold nz; split <;> split <;> omega
    rw [f_X12_within_16, inB_nI (show d < 201 by omega) (by omega), if_pos rfl, nI_cl (by omega), hr.1, if_pos ((nI_leI (by omega) (by omega)).mpr (by omega)), inB_nI hd (by omega), if_pos rfl, if_pos rfl]
    rw [enz] at er e22
    refine ⟨_, rfl, ⟨q.1, fun j hj => ?_, fun j r h1 h2 => ?_, fun j r h1 h2 => ?_, q.2.2.2.2⟩, e1, ?_, ?_, ?_, fun j hj => ?_⟩
    · simp only [uA_21]; rw [if_neg (by omega), if_neg (by omega)]; exact q.2.1 j hj
    · simp only [uA_21]; rw [if_neg (by omega), if_neg (by omega)]; exact q.2.2.1 j r h1 h2
    · simp only [uA_21]
      have e : ∀ (g : Nat → Int32) (x : Int32), upd g (nI (d + 1)).toNatClampNeg x r = g r := fun g x => by rw [upd_j, nI_cl (by omega), if_neg (by omega)]
      rcases (show j = 22 ∨ j = 23 ∨ j = 24 by omega) with rfl | rfl | rfl
      · simp only [if_neg (show ¬ (22 : Nat) = 24 by decide), if_neg (show ¬ (22 : Nat) = 23 by decide)]; exact q.2.2.2.1 22 r h1 h2
      · simp only [if_neg (show ¬ (23 : Nat) = 24 by decide), if_true, e]; exact q.2.2.2.1 23 r h1 h2
      · simp only [if_neg (show ¬ (24 : Nat) = 23 by decide), if_true, e]; exact q.2.2.2.1 24 r h1 h2
    · simp only [uA_21, if_neg (show ¬ (22 : Nat) = 24 by decide), if_neg (show ¬ (22 : Nat) = 23 by decide)]; exact e22
    · simp only [uA_21, if_neg (show ¬ (23 : Nat) = 24 by decide), if_true, upd_j, nI_cl (show d + 1 < 2 ^ 31 by omega)]
    · simp only [uA_21, if_true, upd_j, nI_cl (show d + 1 < 2 ^ 31 by omega)]
    · simp only [uA_21, if_neg (show ¬ (19 : Nat) = 24 by decide), if_neg (show ¬ (20 : Nat) = 24 by decide), if_neg (show ¬ (21 : Nat) = 24 by decide), if_neg (show ¬ (19 : Nat) = 23 by decide), if_neg (show ¬ (20 : Nat) = 23 by decide), if_neg (show ¬ (21 : Nat) = 23 by decide)]; exact er j hj
  | succ k ih =>
    intro i fu s hi hfu q e1 e22 er
    obtain ⟨fu, rfl⟩ : ∃ z, fu = z + 1 := ⟨fu - 1, by omega⟩
    have hr := h.lo q (Nat.lt_succ_self d)
    have hri := hr.2.2.2.2 i (by omega)
    rw [f_X12_within_16, inB_nI (show d < 201 by omega) (by omega), if_pos rfl, nI_cl (by omega), hr.1, if_neg (fun e => absurd ((nI_leI (by omega) (by omega)).mp e) (by omega))]
    by_cases c : i = w
    · rw [if_pos ((hw i (by omega)).mpr c), nI_1]
      have hs1 : (if i + 1 ≤ w then i + 1 else i + 1 - 1) = (if i ≤ w then i else i - 1) := by split <;> split <;> omega
      exact ih (i + 1) fu s (by omega) (by omega) q e1 (by rw [hs1]; exact e22) (by rw [hs1]; exact er)
    · rw [if_neg (fun e => c ((hw i (by omega)).mp e))]
      generalize hs : (if i ≤ w then i else i - 1) = sz at er e22
      have hsz : sz ≤ i := by rw [← hs]; split <;> omega
      have hsk : skp w sz = i := by unfold skp; rw [← hs]; split <;> split <;> omega
      have hs1 : (if i + 1 ≤ w then i + 1 else i + 1 - 1) = sz + 1 := by rw [← hs]; split <;> split <;> omega
      simp only [nI_cl (show d + 1 < 2 ^ 31 by omega), e22, n60b, inB_nI hd (by omega), inB_nI (show 60 * d + i < 12060 by omega) (by omega), inB_nI (show 60 * (d + 1) + sz < 12060 by omega) (by omega), if_true, nI_cl (show 60 * d + i < 2 ^ 31 by omega), uA_21, if_neg (show ¬ (20 : Nat) = 19 by decide), if_neg (show ¬ (21 : Nat) = 19 by decide), if_neg (show ¬ (21 : Nat) = 20 by decide), if_neg (show ¬ (22 : Nat) = 19 by decide), if_neg (show ¬ (22 : Nat) = 20 by decide), if_neg (show ¬ (22 : Nat) = 21 by decide), hri.1, hri.2.1, hri.2.2, nI_1]
      refine ih (i + 1) fu _ (by omega) (by omega) ⟨q.1, fun j hj => ?_, fun j r h1 h2 => ?_, fun j r h1 h2 => ?_, q.2.2.2.2⟩ e1 ?_ (fun j hj => ?_)
      · simp only [uA_21]; rw [if_neg (by omega), if_neg (by omega), if_neg (by omega), if_neg (by omega)]; exact q.2.1 j hj
      · simp only [uA_21]
        have e : ∀ (g : Nat → Int32) (x : Int32), upd g (nI (60 * (d + 1) + sz)).toNatClampNeg x r = g r := fun g x => by rw [upd_j, nI_cl (by omega), if_neg (by omega)]
        rcases (show j = 19 ∨ j = 20 ∨ j = 21 by omega) with rfl | rfl | rfl
        · simp only [if_neg (show ¬ (19 : Nat) = 22 by decide), if_neg (show ¬ (19 : Nat) = 21 by decide), if_neg (show ¬ (19 : Nat) = 20 by decide), if_true, e]; exact q.2.2.1 19 r h1 h2
        · simp only [if_neg (show ¬ (20 : Nat) = 22 by decide), if_neg (show ¬ (20 : Nat) = 21 by decide), if_neg (show ¬ (20 : Nat) = 19 by decide), if_true, e]; exact q.2.2.1 20 r h1 h2
        · simp only [if_neg (show ¬ (21 : Nat) = 22 by decide), if_neg (show ¬ (21 : Nat) = 20 by decide), if_neg (show ¬ (21 : Nat) = 19 by decide), if_true, e]; exact q.2.2.1 21 r h1 h2
      · simp only [uA_21]
        by_cases c2 : j = 22
        · rw [if_pos c2, upd_j, nI_cl (by omega), if_neg (by omega), if_neg (by omega), if_neg (by omega), if_neg (by omega)]; exact q.2.2.2.1 j r h1 h2
        · rw [if_neg c2, if_neg (by omega), if_neg (by omega), if_neg (by omega)]; exact q.2.2.2.1 j r h1 h2
      · rw [hs1]
        simp only [uA_21, if_true, upd_j, nI_cl (show d + 1 < 2 ^ 31 by omega)]
      · rw [hs1] at hj
        simp only [uA_21, if_neg (show ¬ (19 : Nat) = 22 by decide), if_neg (show ¬ (20 : Nat) = 22 by decide), if_neg (show ¬ (21 : Nat) = 22 by decide), if_neg (show ¬ (19 : Nat) = 21 by decide), if_neg (show ¬ (20 : Nat) = 21 by decide), if_neg (show ¬ (19 : Nat) = 20 by decide), if_neg (show ¬ (20 : Nat) = 19 by decide), if_neg (show ¬ (21 : Nat) = 19 by decide), if_neg (show ¬ (21 : Nat) = 20 by decide), if_true, upd_j, nI_cl (show 60 * (d + 1) + sz < 2 ^ 31 by omega)]
        by_cases cj : j = sz
        · rw [if_pos (by omega), if_pos (by omega), if_pos (by omega), cj, hsk]; exact ⟨rfl, rfl, rfl⟩
        · rw [if_neg (by omega), if_neg (by omega), if_neg (by omega)]; exact er j (by omega)
theorem withinM {n : Nat} (hn : 100000 ≤ n) {s : StT} {d z g ar w g' ar' : Nat} {fm tr md : Nat → Nat} {wI : Int32} (h : RM s d z fm tr md g ar) (hd : d + 1 < 201) (hw : ∀ i, i < z → (nI i = wI ↔ i = w)) : ∃ s', f_X12_within n s (nI d) wI (nI g') (nI ar') = some s' ∧ LWM (d + 1) s s' ∧ s'.1 = s.1 ∧ RM s' (d + 1) (nz z w) (fun j => fm (skp w j)) (fun j => tr (skp w j)) (fun j => md (skp w j)) g' ar' := by
  have hz := h.2.1
  have q0 : LWM (d + 1) s (uA s 22 (nI (d + 1)) 0) := ⟨fun _ _ _ => rfl, fun j hj => by simp only [uA_21]; rw [if_neg (by omega)], fun j r h1 h2 => by simp only [uA_21]; rw [if_neg (by omega)], fun j r h1 h2 => by
    simp only [uA_21]
    by_cases c : j = 22
    · rw [if_pos c, upd_j, nI_cl (by omega), if_neg (by omega)]
    · rw [if_neg c], rfl⟩
  obtain ⟨s', e1, e2, e3, e4, e5, e6, e7⟩ := withinM_loop (n := n) (x3 := nI g') (x4 := nI ar') (h.lo q0 (Nat.lt_succ_self d)) hd hw z 0 n (uA s 22 (nI (d + 1)) 0) (by omega) (by omega) (LWM.rf _ _) rfl (by rw [if_pos (Nat.zero_le w)]; simp only [uA_21, if_true, upd_j, nI_cl (show d + 1 < 2 ^ 31 by omega)]; rfl) (fun j hj => by rw [if_pos (Nat.zero_le w)] at hj; omega)
  refine ⟨s', ?_, q0.tr e2, e3, ⟨e4, by unfold nz; split <;> omega, e5, e6, e7⟩⟩
  unfold f_X12_within
  rw [nI_1, inB_nI hd (by omega), if_pos rfl]
  exact e1
/-- a formula comes in the class -/
def cmC (s : StT) (e z f c mo : Nat) : StT := uF (uA (uA (uA s 21 (nI (60 * e + z)) (nI f)) 22 (nI (60 * e + z)) (nI c)) 23 (nI e) (nI (z + 1))) 17 (nI (if mo < z + 1 then z + 1 else mo))
theorem comesC {n : Nat} (hn : 100000 ≤ n) {s : StT} {e z g f c mo : Nat} {fm tc : Nat → Nat} (h : RC s e z fm tc g) (he : e < 201) (hb : ∀ i, i < z → fm i < 100000) (hf : f < 100000) (h17 : s.1 17 = nI mo) (hmo : mo < 1000) : f_X6_comes n s (nI e) (nI f) (nI c) = if (pix fm f z).isSome = true then some (1, s) else if z = 60 then some (0, s) else some (1, cmC s e z f c mo) := by
  have hz := h.2.1
  unfold f_X6_comes
  rw [ixC hn h he hb hf, Option.bind_some]
  simp only []
  cases hp : pix fm f z with
  | some i =>
    have := (pix_some hp).1
    rw [if_neg (show ¬ oI (some i) < 0 from nI_nneg (by omega)), if_pos (show (some i).isSome = true from rfl)]
  | none =>
    rw [if_pos (show oI none < 0 by decide), if_neg (show ¬ (none : Option Nat).isSome = true by decide), rowC he, Option.bind_some]
    simp only []
    rw [if_neg (show ¬ (1 : Int32) = 0 by decide), inB_nI he (by omega), if_pos rfl, nI_cl (by omega), h.1, if_neg (nI_nneg (by omega)), if_pos rfl]
    by_cases c60 : z = 60
    · rw [if_pos c60, if_neg (by rw [c60]; decide)]
    · rw [if_neg c60, if_pos (show nI z < (60 : Int32) from (nI_ltI (b := 60) (by omega) (by omega)).mpr (by omega))]
      unfold cmC
      simp only [n60a, inB_nI (show 60 * e + z < 12060 by omega) (by omega), if_true, uA_21, uA_1, if_neg (show ¬ (23 : Nat) = 21 by decide), if_neg (show ¬ (23 : Nat) = 22 by decide), h.1, h17, nI_1, upd_j, nI_cl (show e < 2 ^ 31 by omega)]
      by_cases cm : mo < z + 1
      · rw [if_pos ((nI_ltI (by omega) (by omega)).mpr cm), if_pos cm]
      · rw [if_neg (fun x => cm ((nI_ltI (by omega) (by omega)).mp x)), if_neg cm]
theorem cmC_row {s : StT} {e z g f c mo : Nat} {fm tc : Nat → Nat} (h : RC s e z fm tc g) (he : e < 201) (hz : z < 60) : RC (cmC s e z f c mo) e (z + 1) (updN fm z f) (updN tc z c) g ∧ LWC e s (cmC s e z f c mo) ∧ (cmC s e z f c mo).1 17 = nI (if mo < z + 1 then z + 1 else mo) := by
  unfold cmC
  refine ⟨⟨?_, by omega, ?_, fun i hi => ?_⟩, ⟨fun j hj => ?_, fun j hj => ?_, fun j r h1 h2 => ?_, fun j r h1 h2 => ?_, rfl⟩, rfl⟩
  · simp only [uF_2, uA_21, if_true, upd_j, nI_cl (show e < 2 ^ 31 by omega)]
  · simp only [uF_2, uA_21, if_neg (show ¬ (24 : Nat) = 23 by decide), if_neg (show ¬ (24 : Nat) = 22 by decide), if_neg (show ¬ (24 : Nat) = 21 by decide)]; exact h.2.2.1
  · simp only [uF_2, uA_21, if_neg (show ¬ (21 : Nat) = 23 by decide), if_neg (show ¬ (21 : Nat) = 22 by decide), if_neg (show ¬ (22 : Nat) = 23 by decide), if_neg (show ¬ (22 : Nat) = 21 by decide), if_true, upd_j, nI_cl (show 60 * e + z < 2 ^ 31 by omega), updN]
    by_cases ci : i = z
    · simp only [ci, if_true]; exact ⟨trivial, trivial⟩
    · simp only [show ¬ 60 * e + i = 60 * e + z by omega, ci, if_false]; exact h.2.2.2 i (by omega)
  · simp only [uF_1, uA_1]; rw [if_neg hj]
  · simp only [uF_2, uA_21]; rw [if_neg (by omega), if_neg (by omega), if_neg (by omega)]
  · simp only [uF_2, uA_21]
    have e' : ∀ (g : Nat → Int32) (x : Int32), upd g (nI (60 * e + z)).toNatClampNeg x r = g r := fun g x => by rw [upd_j, nI_cl (by omega), if_neg (by omega)]
    rcases h1 with rfl | rfl
    · simp only [if_neg (show ¬ (21 : Nat) = 23 by decide), if_neg (show ¬ (21 : Nat) = 22 by decide), if_true, e']
    · simp only [if_neg (show ¬ (22 : Nat) = 23 by decide), if_neg (show ¬ (22 : Nat) = 21 by decide), if_true, e']
  · simp only [uF_2, uA_21]
    rcases h1 with rfl | rfl
    · simp only [if_true, if_neg (show ¬ (23 : Nat) = 22 by decide), if_neg (show ¬ (23 : Nat) = 21 by decide), upd_j, nI_cl (show e < 2 ^ 31 by omega)]; rw [if_neg (by omega)]
    · simp only [if_neg (show ¬ (24 : Nat) = 23 by decide), if_neg (show ¬ (24 : Nat) = 22 by decide), if_neg (show ¬ (24 : Nat) = 21 by decide)]
/-- a formula comes in the reference -/
def cmM (s : StT) (e z f r m mo : Nat) : StT := uF (uA (uA (uA (uA s 19 (nI (60 * e + z)) (nI f)) 20 (nI (60 * e + z)) (nI r)) 21 (nI (60 * e + z)) (nI m)) 22 (nI e) (nI (z + 1))) 22 (nI (if mo < z + 1 then z + 1 else mo))
theorem comesM {n : Nat} (hn : 100000 ≤ n) {s : StT} {e z g ar f r m mo : Nat} {fm tr md : Nat → Nat} (h : RM s e z fm tr md g ar) (he : e < 201) (hb : ∀ i, i < z → fm i < 100000) (hf : f < 100000) (h22 : s.1 22 = nI mo) (hmo : mo < 1000) : f_X12_comes n s (nI e) (nI f) (nI r) (nI m) = if (pix fm f z).isSome = true then some (1, s) else if z = 60 then some (0, uF s 24 (-7)) else some (1, cmM s e z f r m mo) := by
  have hz := h.2.1
  unfold f_X12_comes
  rw [if_pos (nI_nn (by omega)), ixM hn h he hb hf, Option.bind_some]
  simp only []
  cases hp : pix fm f z with
  | some i =>
    have := (pix_some hp).1
    rw [if_neg (show ¬ oI (some i) < 0 from nI_nneg (by omega)), if_pos (show (some i).isSome = true from rfl)]
  | none =>
    rw [if_pos (show oI none < 0 by decide), if_neg (show ¬ (none : Option Nat).isSome = true by decide), inB_nI he (by omega), if_pos rfl, nI_cl (by omega), h.1]
    by_cases c60 : z = 60
    · rw [if_pos c60, if_pos (by rw [c60]; rfl)]
    · rw [if_neg c60, if_neg (show ¬ nI z = (60 : Int32) from fun x => c60 (nI_inj (b := 60) (by omega) (by omega) x)), if_pos rfl]
      unfold cmM
      simp only [n60b, inB_nI (show 60 * e + z < 12060 by omega) (by omega), if_true, uA_21, uA_1, if_neg (show ¬ (22 : Nat) = 19 by decide), if_neg (show ¬ (22 : Nat) = 20 by decide), if_neg (show ¬ (22 : Nat) = 21 by decide), h.1, h22, nI_1, upd_j, nI_cl (show e < 2 ^ 31 by omega)]
      by_cases cm : mo < z + 1
      · rw [if_neg (fun x => absurd ((nI_leI (by omega) (by omega)).mp x) (by omega)), if_pos cm]
      · rw [if_pos ((nI_leI (by omega) (by omega)).mpr (by omega)), if_neg cm]
theorem cmM_row {s : StT} {e z g ar f r m mo : Nat} {fm tr md : Nat → Nat} (h : RM s e z fm tr md g ar) (he : e < 201) (hz : z < 60) : RM (cmM s e z f r m mo) e (z + 1) (updN fm z f) (updN tr z r) (updN md z m) g ar ∧ LWM e s (cmM s e z f r m mo) ∧ (cmM s e z f r m mo).1 22 = nI (if mo < z + 1 then z + 1 else mo) ∧ (cmM s e z f r m mo).1 24 = s.1 24 := by
  unfold cmM
  refine ⟨⟨?_, by omega, ?_, ?_, fun i hi => ?_⟩, ⟨fun j hj _ => ?_, fun j hj => ?_, fun j r h1 h2 => ?_, fun j r h1 h2 => ?_, rfl⟩, rfl, rfl⟩
  · simp only [uF_2, uA_21, if_true, upd_j, nI_cl (show e < 2 ^ 31 by omega)]
  · simp only [uF_2, uA_21, if_neg (show ¬ (23 : Nat) = 22 by decide), if_neg (show ¬ (23 : Nat) = 21 by decide), if_neg (show ¬ (23 : Nat) = 20 by decide), if_neg (show ¬ (23 : Nat) = 19 by decide)]; exact h.2.2.1
  · simp only [uF_2, uA_21, if_neg (show ¬ (24 : Nat) = 22 by decide), if_neg (show ¬ (24 : Nat) = 21 by decide), if_neg (show ¬ (24 : Nat) = 20 by decide), if_neg (show ¬ (24 : Nat) = 19 by decide)]; exact h.2.2.2.1
  · simp only [uF_2, uA_21, if_neg (show ¬ (19 : Nat) = 22 by decide), if_neg (show ¬ (20 : Nat) = 22 by decide), if_neg (show ¬ (21 : Nat) = 22 by decide), if_neg (show ¬ (19 : Nat) = 21 by decide), if_neg (show ¬ (20 : Nat) = 21 by decide), if_neg (show ¬ (19 : Nat) = 20 by decide), if_neg (show ¬ (20 : Nat) = 19 by decide), if_neg (show ¬ (21 : Nat) = 19 by decide), if_neg (show ¬ (21 : Nat) = 20 by decide), if_true, upd_j, nI_cl (show 60 * e + z < 2 ^ 31 by omega), updN]
    by_cases ci : i = z
    · simp only [ci, if_true]; exact ⟨trivial, trivial, trivial⟩
    · simp only [show ¬ 60 * e + i = 60 * e + z by omega, ci, if_false]; exact h.2.2.2.2 i (by omega)
  · simp only [uF_1, uA_1]; rw [if_neg hj]
  · simp only [uF_2, uA_21]; rw [if_neg (by omega), if_neg (by omega), if_neg (by omega), if_neg (by omega)]
  · simp only [uF_2, uA_21]
    have e' : ∀ (g : Nat → Int32) (x : Int32), upd g (nI (60 * e + z)).toNatClampNeg x r = g r := fun g x => by rw [upd_j, nI_cl (by omega), if_neg (by omega)]
    rcases (show j = 19 ∨ j = 20 ∨ j = 21 by omega) with rfl | rfl | rfl
    · simp only [if_neg (show ¬ (19 : Nat) = 22 by decide), if_neg (show ¬ (19 : Nat) = 21 by decide), if_neg (show ¬ (19 : Nat) = 20 by decide), if_true, e']
    · simp only [if_neg (show ¬ (20 : Nat) = 22 by decide), if_neg (show ¬ (20 : Nat) = 21 by decide), if_neg (show ¬ (20 : Nat) = 19 by decide), if_true, e']
    · simp only [if_neg (show ¬ (21 : Nat) = 22 by decide), if_neg (show ¬ (21 : Nat) = 20 by decide), if_neg (show ¬ (21 : Nat) = 19 by decide), if_true, e']
  · simp only [uF_2, uA_21]
    by_cases c2 : j = 22
    · rw [if_pos c2, upd_j, nI_cl (by omega), if_neg (by omega), if_neg (by omega), if_neg (by omega), if_neg (by omega)]
    · rw [if_neg c2, if_neg (by omega), if_neg (by omega), if_neg (by omega)]
theorem comesM_neg {n : Nat} {s : StT} {x1 x3 x4 : Int32} : f_X12_comes n s x1 (-1) x3 x4 = some (0, uF s 24 (-7)) := by
  unfold f_X12_comes
  rw [if_neg (by decide)]
