/-! ===== which word a name is ===== -/
def wd (l : List Nat) : Nat := if l = [116, 114, 117, 101] then 1 else if l = [102, 97, 108, 115, 101] then 2 else 0
def wdC (w : Nat) : Int32 := if w = 1 then 116 else if w = 2 then 102 else 110
def wdM (w : Nat) : Int32 := if w = 1 then 258 else if w = 2 then 259 else 257
theorem pk_is {l m : List Nat} {c : Int64} (hl : l.length ≤ 6) (hb : ∀ b, b ∈ l → 0 < b ∧ b < 128) (hm : m.length ≤ 6) (hmb : ∀ b, b ∈ m → 0 < b ∧ b < 128) (hc : c = Int64.ofNat (pkN m)) : Int64.ofNat (pkN l) = c ↔ l = m := by
  constructor
  · intro e
    rw [hc] at e
    have h1 := congrArg nn e
    rw [nn_ofNat (pkN_lt 6 l hl hb), nn_ofNat (pkN_lt 6 m hm hmb)] at h1
    have h2 := nb_pk 6 l hl hb
    rw [h1, nb_pk 6 m hm hmb] at h2
    exact h2.symm
  · intro e
    rw [e, hc]
theorem scanNameC {n : Nat} (hn : 100000 ≤ n) {s : StT} {tn : Nat} {bt : Nat → Nat} (hT : TxC s tn bt) {q : Nat} (hq : q < tn) (h4 : s.1 4 = nI q) : ∃ pk : Int64, (nx tn bt q - q ≤ 6 → pk = Int64.ofNat (pkN (bts bt q (nx tn bt q - q)))) ∧ f_X8_scanName n s = some (if nx tn bt q - q ≤ 6 then uF (uF (uL s 0 pk) 3 (wdC (wd (bts bt q (nx tn bt q - q))))) 5 (nI (nx tn bt q)) else uF (uF (uL s 0 pk) 3 (-1)) 5 (nI q)) := by
  have h1 := hT.1
  have hnb := nx_bd (tn := tn) (bt := bt) (tn - q) q (by omega)
  obtain ⟨m, pk, e1, e2', e3⟩ := scanName_loop (n := n) hT (q := q) h4 (tn - q) 0 n 0 (by omega) (by omega) (by omega) (fun _ => rfl) (fun i hi => by omega)
  rw [Nat.add_zero, nI_0] at e1
  rw [Nat.add_zero] at e2' e3
  have e2 := fun h => (e2' h).2
  refine ⟨pk, e2, ?_⟩
  unfold f_X8_scanName
  rw [h4, byteAtC hT (by omega), Option.bind_some]
  simp only []
  rw [e1]
  unfold f_X8_scanName_63
  have tok : ∀ (c x : Int32), f_X8_token n (uL s 0 pk) c x = some (uF (uF (uL s 0 pk) 3 c) 5 (nI q + x)) := by
    intro c x
    unfold f_X8_token
    rw [show (uF (uL s 0 pk) 3 c).1 4 = nI q from h4]
  by_cases c6 : nx tn bt q - q ≤ 6
  · have hl : (bts bt q (nx tn bt q - q)).length ≤ 6 := by rw [bts_len]; exact c6
    have hb := bts_bd (bt := bt) (q := q) (k := nx tn bt q - q) (fun i hi => hnb.2.2 (q + i) (by omega) (by omega))
    rw [(e2' c6).1, if_pos (show nI (nx tn bt q - q) ≤ (6 : Int32) from (nI_leI (b := 6) (by omega) (by omega)).mpr c6), if_pos c6]
    have hadd : nI q + nI (nx tn bt q - q) = nI (nx tn bt q) := by rw [nI_add]; congr 1; omega
    have ht := pk_is (c := 1953658213) hl hb (m := [116, 114, 117, 101]) (by decide) (by decide) (by decide)
    have hf := pk_is (c := 439721161573) hl hb (m := [102, 97, 108, 115, 101]) (by decide) (by decide) (by decide)
    rw [← e2 c6] at ht hf
    unfold wd
    by_cases c1 : bts bt q (nx tn bt q - q) = [116, 114, 117, 101]
    · rw [if_pos (lgc.mpr (ht.mpr c1)), tok, if_pos c1, hadd]
      rfl
    · rw [if_neg (fun e => c1 (ht.mp (lgc.mp e))), if_neg c1]
      by_cases c2 : bts bt q (nx tn bt q - q) = [102, 97, 108, 115, 101]
      · rw [if_pos (lgc.mpr (hf.mpr c2)), tok, if_pos c2, hadd]
        rfl
      · rw [if_neg (fun e => c2 (hf.mp (lgc.mp e))), tok, if_neg c2, hadd]
        rfl
  · have hm := e3 c6
    rw [if_neg (show ¬ nI m ≤ (6 : Int32) from fun e => absurd ((nI_leI (b := 6) (by omega) (by omega)).mp e) (by omega)), if_neg c6, tok, Int32.add_zero]
    rfl
