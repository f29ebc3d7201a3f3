
/-! ===== the law over the two worlds ===== -/
def opC (n : Nat) (k : Nat) (v : Int64) (a b c : Int32) (st : StT) : Option (Int32 × StT) := match k with
  | 0 => f_X11_feed n st v c
  | 1 => f_X11_read n st
  | 2 => f_X11_place n st
  | 3 => f_X11_count n st a
  | 4 => f_X11_formula n st a b
  | 5 => f_X11_make n st a b c
  | 6 => f_X11_write n st a
  | 7 => f_X11_octet n st a
  | 8 => f_X11_given n st a
  | 9 => f_X11_forget n st
  | 10 => f_X11_prove n st a b
  | 11 => f_X11_told n st a
  | 12 => f_X11_proof n st
  | 13 => f_X11_check n st a
  | 14 => f_X11_classical n st a
  | 15 => f_X11_refute n st
  | 16 => f_X11_clear n st
  | 17 => f_X11_world n st a
  | 18 => f_X11_force n st a b
  | 19 => f_X11_about n st a b c
  | 20 => f_X11_holds n st a b
  | _ => none
def opM (n : Nat) (k : Nat) (v : Int64) (a b c : Int32) (st : StT) : Option (Int32 × StT) := match k with
  | 0 => f_X12_feed n st v c
  | 1 => f_X12_read n st
  | 2 => f_X12_place n st
  | 3 => f_X12_count n st a
  | 4 => f_X12_formula n st a b
  | 5 => f_X12_make n st a b c
  | 6 => f_X12_write n st a
  | 7 => f_X12_octet n st a
  | 8 => f_X12_given n st a
  | 9 => f_X12_forget n st
  | 10 => f_X12_prove n st a b
  | 11 => f_X12_told n st a
  | 12 => f_X12_proof n st
  | 13 => f_X12_check n st a
  | 14 => f_X12_classical n st a
  | 15 => f_X12_refute n st
  | 16 => f_X12_clear n st
  | 17 => f_X12_world n st a
  | 18 => f_X12_force n st a b
  | 19 => f_X12_about n st a b c
  | 20 => f_X12_holds n st a b
  | _ => none
/-- what is left of the claim when the machine is gone: a relation of states that every call keeps, with one answer -/
def Sim (n : Nat) (I : StT → StT → Prop) : Prop := ∀ (k : Nat) (v : Int64) (a b c : Int32) (sC sM : StT), k < 21 → I sC sM → ∃ (r : Int32) (sC' sM' : StT), opC n k v a b c sC = some (r, sC') ∧ opM n k v a b c sM = some (r, sM') ∧ I sC' sM'
def Z2 (D : va_G) (wa wb : va_W) (A : Nat → Prop) (s : State) (H : Heap) (locs : List Loc) : Prop := va_P D vwCl wa H ∧ va_P D vwCl wb H ∧ va_D A wa ∧ va_D A wb ∧ (∀ (i j : Nat) (p q : Nat × va_E), wa[i]? = some p → wb[j]? = some q → p.1 ≠ q.1) ∧ va_S A s.heap H locs
theorem Z2.swap {D : va_G} {wa wb : va_W} {A : Nat → Prop} {s : State} {H : Heap} {locs : List Loc} (Z : Z2 D wa wb A s H locs) : Z2 D wb wa A s H locs := ⟨Z.2.1, Z.1, Z.2.2.2.1, Z.2.2.1, fun i j p q hp hq h => Z.2.2.2.2.1 j i q p hq hp h.symm, Z.2.2.2.2.2⟩
theorem Z2.left {D : va_G} {wa wb : va_W} {A : Nat → Prop} {s : State} {H : Heap} {locs : List Loc} (Z : Z2 D wa wb A s H locs) : ZG D wa A s H locs := ⟨Z.1, Z.2.2.1, Z.2.2.2.2.2⟩
section LAWB
variable {p : Program} {l : Launch} {e : Env} {R : Room} {s : State} {m : MethodId} {args : Array Value} {below : List Frame} {meth : Method} {c : Code} {H : Heap} {locs : List Loc} {Q : State → Prop} {cells slots : Nat}
variable {cc : ByteArray} {nL pc : Nat} {ls : Array Slot} {rest : List Value} {D : va_G} {A : Nat → Prop} {wa wa' wb : va_W} {own : String} {cw : Cond}
variable {cy : Nat → ClassId} {ee : EE} {y : MethodName} {bytes : ByteArray} {maxL fr lo : Nat} {As : List Value} {index n : Nat} {ret : Option FieldType} {rv : Option Value} {b : Nat}
theorem call_2 (q0 ci : Nat) {q : vw_C} {fs : List Value} (F : CallFix p m c cc nL s args (cw :: Gw) own) (K : va_K D vwCl (tyL cy) s) (E : EV ee A s s.heap) (hA : ∀ q, s.heap.size ≤ q → A q) (Z : Z2 D wa wb A s H locs) (hC : CT l y bytes maxL ret fr lo D cy ee wa wa' (.ref b :: As) rv)
    (hw : Cond.code y bytes maxL ret ∈ Gw ∧ Cond.methodLink own index y ∈ Gw ∧ Cond.instanceMethod y ∈ Gw ∧ Cond.selects q.1 y y ∈ Gw ∧ Cond.initialized q.1 ∈ Gw) (hd : y.cls = q.1 ∧ y.cls ≠ "java/lang/invoke/MethodHandle" ∧ y.cls ≠ "java/lang/invoke/VarHandle" ∧ (parseMethodDescriptor y.desc).map (fun d => d.parameters.length) = some n)
    (hc : vwCl[ci]? = some q) (he : wa[q0]? = some (b, .inr (ci, fs))) (hR : fr + 1 ≤ R.frames ∧ 8 + (maxL + 11) + lo ≤ R.locals) (hf : cells ≤ R.cells ∧ slots ≤ R.slots) (hn : As.length = n) (hl : ls.size = nL) (hst : (rest.map fun v => v.category).sum ≤ 8) (hdg : decode cc pc = .ok (.invokevirtual index, 3))
    (kk : ∀ (H1 : Heap) (locs1 : List Loc), Z2 D wa' wb A s H1 locs1 → W p l e R s m args below meth c H1 locs1 cells slots Q (F0 m (pc + 3) ls (rv.toList ++ rest))) : W p l e R s m args below meth c H locs cells slots Q (F0 m pc ls (As.reverse ++ .ref b :: rest)) := by
  have hG : GoodIn (cw :: Gw) (wsV own index q.1 y (Cond.code y bytes maxL ret :: Gw)) := good_of hw.1 (fun w h => by
    simp only [List.mem_cons, List.not_mem_nil, or_false] at h
    rcases h with h | h | h | h
    · rw [h]; exact hw.2.1
    · rw [h]; exact hw.2.2.1
    · rw [h]; exact hw.2.2.2.1
    · rw [h]; exact hw.2.2.2.2)
  have Zl := Z.left
  have hp := pre_of (As := .ref b :: As) K E Zl hA
  have hr := va_runV (As := As) (rest := rest) (e := e) (below := below) (meth := meth) (locs := locs) (cells := cells) (slots := slots) (g := F0 m pc ls (As.reverse ++ .ref b :: rest)) F (hC H.size) (cwV n F.2.2.2.2 hG rfl rfl rfl hd hR) ⟨hp.1, va_recv K Zl.1 hc he, hp.2⟩ rfl hn hl rfl (lv_room hst) hdg hf
  intro T hT X
  obtain ⟨v, st₀, t, T', L, h0, X', hL, e1, e2, ⟨⟨hv, hP, hD⟩, hz, hk⟩, st⟩ := hr T hT X
  cases hv
  rw [h0] at hz hk
  rw [← e1] at hP hz
  have hk' : ∀ a : Nat, a < H.size → ¬ va_A wa H.size a → T'.heap[a]? = H[a]? := fun a h1 h2 => by rw [e1]; exact hk a h1 h2
  have hS := Zl.2.2
  have hAs := sub_A Zl hA
  have out : ∀ (j : Nat) (x : Nat × va_E), wb[j]? = some x → x.1 < H.size ∧ ¬ va_A wa H.size x.1 := by
    intro j x hx
    refine ⟨(Z.2.1 j x hx).lt, fun h => ?_⟩
    rcases h with ⟨k, e0, h⟩ | h
    · exact Z.2.2.2.2.1 k j (x.1, e0) x h hx rfl
    · have := (Z.2.1 j x hx).lt
      omega
  obtain ⟨t2, a1, b1⟩ := kk T'.heap (locs ++ L) ⟨hP, fun j x hx => (Z.2.1 j x hx).kept (hk' x.1 (out j x hx).1 (out j x hx).2), hD.weaken (fun _ _ _ h => hAs _ h), Z.2.2.2.1, fun i j x z hx hz2 h => (out j z hz2).2 (by rw [← h]; exact hD.2 i x hx), Nat.le_trans hS.1 hz, fun x h1 h2 => by rw [hk' x (Nat.lt_of_lt_of_le h1 hS.1) (fun z => h2 (hAs x z))]; exact hS.2.1 x h1 h2, fun x hx => by
      rcases List.mem_append.mp hx with h | h
      · exact hS.2.2 x h
      · exact hAs _ (hL x h)⟩ T' rfl X'
  exact ⟨t2, st t2 a1, b1⟩
end LAWB

/-! THE CLAIM OUT OF ONE WALK OF THE LAW'S BODY. Your part is whole_start (and what it stands on); all else here is the same for every law, but numbers. -/
def R_law : String := "WorldProverLaw"
def lw_P (b : Addr) (xs : List Int32) (args : Array Value) (s : State) : Prop := args = #[.ref b] ∧ s.IntsAt b xs ∧ xs.length ≤ 2048 ∧ (Jvm.Cond.and given_1 narrow_1).before args s = true
def lw_Q (_ : Array Value) (s : State) (o : Outcome) (t : State) : Prop := o = .returned (some (.int 1)) ∧ Framed s o t [] 600000 7302250
def lw_Z (below : List Frame) (a : Array Value) (s : State) : State → Prop := fun t => ∃ o, t.status = .running ∧ Ended t below o ∧ lw_Q a s o t
/-- the law's own end, with 1 on the stack, nothing written that was there before, its room as the claim has it -/
theorem lw_ret {p : Program} {l : Launch} {e : Env} {s : State} {m : MethodId} {below : List Frame} {meth : Method} {c : Code} {b : Nat} (hx : p.tables.exec = Jvm.exec) (hb : c.code = code) (hr : meth.sig.returnType = ret) (hlocks : meth.locks = false) {pc : Nat} {H : Heap} {ls : Array Slot} (hdg : decode code pc = .ok (.ireturn, 1)) : W p l e room_1 s m #[Value.ref b] below meth c H [] 600000 7302250 (lw_Z below #[Value.ref b] s) (F0 m pc ls [.int 1]) := by
  intro T hT X
  obtain ⟨fs, hret, hrun, hended, hW, hframe⟩ := X.leave (v := some (.int 1)) (hlocks := hlocks) (fun h => by rw [hr] at h; cases h)
  have hmeth' : T.vm.method? m = some meth := X.method'
  refine ⟨T.setFrames fs, ?_, .returned (some (.int 1)), hrun, hended, rfl, ⟨_, rfl⟩, hW, hframe⟩
  jvm_step X.here [X.here.top, hx, hb, hdg, hmeth', hr, ret, narrow_b1]
  (try refine ⟨rfl, ?_⟩); (try refine ⟨rfl, ?_⟩)
  first | (intro acts; rw [hret _ acts rfl rfl rfl]) | rw [hret _ _ rfl rfl rfl]
  exact Steps.refl _
/-- what holds at the law's entry: the machine, the code, the tables' words (any of lw_tbl by 'hts w (by decide +kernel)'), the script of L ints xs at the cell b, what the Statement gives of the start (any of its parts by flat_of_before) -/
def lw_At (p : Program) (s : State) (m : MethodId) (meth : Method) (c : Code) (b L : Nat) (xs : Nat → Int32) : Prop :=
  p.tables.exec = Jvm.exec ∧ c.code = code ∧ meth.sig.returnType = ret ∧ c.maxLocals = 4 ∧ s.vm.findClass R_law = some m.cls ∧ (∀ w ∈ lw_tbl, w.before #[Value.ref b] s = true) ∧ va_X b L xs s s.heap ∧ b < s.heap.size ∧ meth.locks = false ∧ (Jvm.Cond.and given_1 narrow_1).before #[Value.ref b] s = true

def strT : Nat → Term := fun i => match i with
  | 0 => .string "WorldProver$Tokens" 64
  | 1 => .string "WorldProver$Tokens" 71
  | 2 => .string "WorldProver$Writer" 105
  | 3 => .string "WorldProver$Writer" 107
  | _ => .string "WorldProver$Writer" 113
theorem i5 {P : Nat → Prop} (h0 : P 0) (h1 : P 1) (h2 : P 2) (h3 : P 3) (h4 : P 4) : ∀ i, i < 5 → P i := fun i hi => by
  rcases (show i = 0 ∨ i = 1 ∨ i = 2 ∨ i = 3 ∨ i = 4 by omega) with rfl | rfl | rfl | rfl | rfl
  · exact h0
  · exact h1
  · exact h2
  · exact h3
  · exact h4
abbrev nrw : List Cond := flatC (Jvm.Cond.and given_1 narrow_1)
set_option maxRecDepth 100000 in
theorem st_w1 : ∀ i, i < 5 → Cond.exactly (strT i) "java/lang/String" ∈ nrw := by decide +kernel
set_option maxRecDepth 100000 in
theorem st_w2 : ∀ i, i < 5 → Cond.eq (.field (strT i) "java/lang/String" "coder" "B") (.int 0) ∈ nrw := by decide +kernel
set_option maxRecDepth 100000 in
theorem st_w3 : ∀ i, i < 5 → Cond.arrayOf (.field (strT i) "java/lang/String" "value" "[B") .byte ∈ nrw := by decide +kernel
set_option maxRecDepth 100000 in
theorem st_w4 : ∀ i, i < 5 → Cond.eq (.length (.field (strT i) "java/lang/String" "value" "[B")) (.int (Int32.ofNat (strLen.getD i 0))) ∈ nrw := by decide +kernel
set_option maxRecDepth 100000 in
theorem st_w5 : ∀ i, i < 5 → ∀ j, j < strLen.getD i 0 → Cond.eq (.elem (.field (strT i) "java/lang/String" "value" "[B") (.int (Int32.ofNat j))) (.int ((strByt.getD i []).getD j 0)) ∈ nrw := by decide +kernel
set_option maxRecDepth 100000 in
theorem st_w6 : ∀ i, i < 5 → ∀ j, j < 5 → i ≠ j → (Cond.not (Cond.eq (strT i) (strT j)) ∈ nrw ∨ Cond.not (Cond.eq (strT j) (strT i)) ∈ nrw) := by decide +kernel
set_option maxRecDepth 100000 in
theorem st_w7 : Cond.eq (.static "java/lang/String" "COMPACT_STRINGS" "Z") (.int 1) ∈ nrw ∧ Cond.isRef (.static "jdk/internal/util/Preconditions" "SIOOBE_FORMATTER" "Ljava/util/function/BiFunction;") ∈ nrw ∧ Cond.arrayOf (.static "WorldProver$Parts" "PATTERNS" "[J") .long ∈ nrw ∧ Cond.eq (.length (.static "WorldProver$Parts" "PATTERNS" "[J")) (.int 6) ∈ nrw := by decide +kernel
set_option maxRecDepth 100000 in
theorem st_w8 : ∀ j, j < 6 → Cond.eq (.elem (.static "WorldProver$Parts" "PATTERNS" "[J") (.int (Int32.ofNat j))) (.long (pats.getD j 0)) ∈ nrw := by decide +kernel
theorem ev_start {s : State} {b : Nat} (hts : ∀ w ∈ lw_tbl, w.before #[Value.ref b] s = true) (hgv : (Jvm.Cond.and given_1 narrow_1).before #[Value.ref b] s = true) : ∃ ee : EE, EV ee (fun q => s.heap.size ≤ q) s s.heap := by
  have hg := flat_of_before _ hgv
  have hA : ∀ a : Nat, a < s.heap.size → ¬ (fun q => s.heap.size ≤ q) a := fun a h => Nat.not_le.mpr h
  obtain ⟨adK, adV, hS, hT⟩ := vk_Sof (N := 5) (tm := strT) (len := strLen) (byt := strByt) (A := fun q => s.heap.size ≤ q) (by decide) (fun i hi => hg _ (st_w1 i hi)) (fun i hi => hg _ (st_w2 i hi)) (fun i hi => hg _ (st_w3 i hi)) (fun i hi => hg _ (st_w4 i hi)) (fun i hi j hj => hg _ (st_w5 i hi j hj)) (fun i j hi hj hne => (st_w6 i hi j hj hne).imp (hg _) (hg _)) hA
  obtain ⟨t, ht, hTp⟩ := va_Tof (tm := .static "WorldProver$Parts" "PATTERNS" "[J") (N := 6) (f := fun j => .long (pats.getD j 0)) (A := fun q => s.heap.size ≤ q) (by decide) (hg _ st_w7.2.2.1) (va_eqt (hg _ st_w7.2.2.2)) (fun j hj => va_eqtl (hg _ (st_w8 j hj))) hA
  refine ⟨(adK, adV, t), ?_, hS, ⟨vk_R.of (hts _ (List.mem_append_right _ (List.mem_append_right _ (List.mem_append_right _ (List.mem_append_left _ (List.mem_of_getElem? (i := 10) rfl)))))) (hT 0 (by decide)), vk_R.of (hts _ (List.mem_append_right _ (List.mem_append_right _ (List.mem_append_right _ (List.mem_append_left _ (List.mem_of_getElem? (i := 95) rfl)))))) (hT 1 (by decide)), vk_R.of (hts _ (List.mem_append_right _ (List.mem_append_right _ (List.mem_append_right _ (List.mem_append_left _ (List.mem_of_getElem? (i := 237) rfl)))))) (hT 2 (by decide)), vk_R.of (hts _ (List.mem_append_right _ (List.mem_append_right _ (List.mem_append_right _ (List.mem_append_left _ (List.mem_of_getElem? (i := 238) rfl)))))) (hT 3 (by decide)), vk_R.of (hts _ (List.mem_append_right _ (List.mem_append_right _ (List.mem_append_right _ (List.mem_append_right _ (List.mem_append_left _ (List.mem_of_getElem? (i := 28) rfl))))))) (hT 4 (by decide))⟩, ?_, ?_, ?_, hTp⟩
  · intro q hq
    have h : Cond.fieldLinkNest "WorldProver" q.1 q.2.1 q.2.2.1 q.2.2.2 "WorldProver" ∈ lw_tbl := by
      simp only [nestT, List.mem_cons, List.not_mem_nil, or_false] at hq
      rcases hq with rfl | rfl | rfl | rfl | rfl | rfl | rfl | rfl | rfl | rfl | rfl | rfl
      · exact (List.mem_append_right _ (List.mem_append_left _ (List.mem_of_getElem? (i := 154) rfl)))
      · exact (List.mem_append_right _ (List.mem_append_left _ (List.mem_of_getElem? (i := 156) rfl)))
      · exact (List.mem_append_right _ (List.mem_append_left _ (List.mem_of_getElem? (i := 159) rfl)))
      · exact (List.mem_append_right _ (List.mem_append_left _ (List.mem_of_getElem? (i := 223) rfl)))
      · exact (List.mem_append_right _ (List.mem_append_right _ (List.mem_append_left _ (List.mem_of_getElem? (i := 25) rfl))))
      · exact (List.mem_append_right _ (List.mem_append_right _ (List.mem_append_left _ (List.mem_of_getElem? (i := 27) rfl))))
      · exact (List.mem_append_right _ (List.mem_append_right _ (List.mem_append_left _ (List.mem_of_getElem? (i := 29) rfl))))
      · exact (List.mem_append_right _ (List.mem_append_right _ (List.mem_append_left _ (List.mem_of_getElem? (i := 36) rfl))))
      · exact (List.mem_append_right _ (List.mem_append_right _ (List.mem_append_left _ (List.mem_of_getElem? (i := 38) rfl))))
      · exact (List.mem_append_right _ (List.mem_append_right _ (List.mem_append_left _ (List.mem_of_getElem? (i := 40) rfl))))
      · exact (List.mem_append_right _ (List.mem_append_right _ (List.mem_append_left _ (List.mem_of_getElem? (i := 42) rfl))))
      · exact (List.mem_append_right _ (List.mem_append_right _ (List.mem_append_left _ (List.mem_of_getElem? (i := 44) rfl))))
    exact va_Nw.of rfl (hts _ h)
  · exact va_Zof (hts _ (List.mem_append_right _ (List.mem_append_right _ (List.mem_append_right _ (List.mem_append_left _ (List.mem_of_getElem? (i := 24) rfl)))))) (hts _ (List.mem_append_right _ (List.mem_append_left _ (List.mem_of_getElem? (i := 15) rfl)))) (va_eqi (hg _ st_w7.1)) hA
  · exact va_Zqof (hts _ (List.mem_append_right _ (List.mem_append_right _ (List.mem_append_right _ (List.mem_append_left _ (List.mem_of_getElem? (i := 65) rfl)))))) (hts _ (List.mem_append_right _ (List.mem_append_left _ (List.mem_of_getElem? (i := 18) rfl)))) (hg _ st_w7.2.1) hA
  · exact va_Zref (hts _ (List.mem_append_right _ (List.mem_append_right _ (List.mem_append_right _ (List.mem_append_right _ (List.mem_append_right _ (List.mem_append_left _ (List.mem_of_getElem? (i := 167) rfl)))))))) (hts _ (List.mem_append_right _ (List.mem_append_left _ (List.mem_of_getElem? (i := 12) rfl)))) ht hA

theorem ei_start {s : State} {b : Nat} (hts : ∀ w ∈ lw_tbl, w.before #[Value.ref b] s = true) : EI s := ⟨va_Nw.of rfl (hts _ (List.mem_append_right _ (List.mem_append_left _ (List.mem_of_getElem? (i := 32) rfl)))), va_Nw.of rfl (hts _ (List.mem_append_right _ (List.mem_append_left _ (List.mem_of_getElem? (i := 214) rfl)))), va_Nw.of rfl (hts _ (List.mem_append_right _ (List.mem_append_left _ (List.mem_of_getElem? (i := 237) rfl))))⟩
theorem arr_start {s : State} {b : Nat} {ty : FieldType} (h : (Cond.arrayClass ty).before #[Value.ref b] s = true) (hty : ∀ C, ty ≠ .object C) : ∃ cA : ClassId, ArrOfT s cA ty ∧ va_RA s cA ty := by
  obtain ⟨cA, kA, comp, h1, h2, h3⟩ := Cond.arrayClass_spec h
  refine ⟨cA, fun n z => ⟨fun k h => (by cases h), kA, h2, comp, h3⟩, ?_⟩
  cases ty with
  | object C => exact absurd rfl (hty C)
  | _ => exact h1

theorem k_start {s : State} {b : Nat} (hts : ∀ w ∈ lw_tbl, w.before #[Value.ref b] s = true) : ∃ (D : va_G) (cy : Nat → ClassId), va_K D vwCl (tyL cy) s := by
  have hG : ∀ w ∈ Gw, w.before #[Value.ref b] s = true := fun w h => hts w (gw_in w h)
  obtain ⟨c0, j0, hK0⟩ := u_known (C := RX0) (T := TX0) (N := 4) (n := 4) hG inG_X0 (hts (.instantiable RX0 4) (List.mem_append_right _ (List.mem_append_right _ (List.mem_append_left _ (List.mem_of_getElem? (i := 75) rfl)))))
  obtain ⟨c1, j1, hK1⟩ := u_known (C := RX1) (T := TX1) (N := 9) (n := 9) hG inG_X1 (hts (.instantiable RX1 9) (List.mem_append_right _ (List.mem_append_left _ (List.mem_of_getElem? (i := 64) rfl))))
  obtain ⟨c2, j2, hK2⟩ := u_known (C := RX2) (T := TX2) (N := 3) (n := 3) hG inG_X2 (hts (.instantiable RX2 3) (List.mem_append_right _ (List.mem_append_right _ (List.mem_append_left _ (List.mem_of_getElem? (i := 96) rfl)))))
  obtain ⟨c3, j3, hK3⟩ := u_known (C := RX3) (T := TX3) (N := 6) (n := 6) hG inG_X3 (hts (.instantiable RX3 6) (List.mem_append_right _ (List.mem_append_left _ (List.mem_of_getElem? (i := 117) rfl))))
  obtain ⟨c4, j4, hK4⟩ := u_known (C := RX4) (T := TX4) (N := 7) (n := 7) hG inG_X4 (hts (.instantiable RX4 7) (List.mem_append_right _ (List.mem_append_left _ (List.mem_of_getElem? (i := 236) rfl))))
  obtain ⟨c5, j5, hK5⟩ := u_known (C := RX5) (T := TX5) (N := 14) (n := 14) hG inG_X5 (hts (.instantiable RX5 14) (List.mem_append_right _ (List.mem_append_left _ (List.mem_of_getElem? (i := 205) rfl))))
  obtain ⟨c6, j6, hK6⟩ := u_known (C := RX6) (T := TX6) (N := 5) (n := 5) hG inG_X6 (hts (.instantiable RX6 5) (List.mem_append_right _ (List.mem_append_left _ (List.mem_of_getElem? (i := 213) rfl))))
  obtain ⟨c7, j7, hK7⟩ := u_known (C := RX7) (T := TX7) (N := 7) (n := 7) hG inG_X7 (hts (.instantiable RX7 7) (List.mem_append_right _ (List.mem_append_left _ (List.mem_of_getElem? (i := 123) rfl))))
  obtain ⟨c8, j8, hK8⟩ := u_known (C := RX8) (T := TX8) (N := 8) (n := 8) hG inG_X8 (hts (.instantiable RX8 8) (List.mem_append_right _ (List.mem_append_left _ (List.mem_of_getElem? (i := 31) rfl))))
  obtain ⟨c9, j9, hK9⟩ := u_known (C := RX9) (T := TX9) (N := 6) (n := 6) hG inG_X9 (hts (.instantiable RX9 6) (List.mem_append_right _ (List.mem_append_right _ (List.mem_append_left _ (List.mem_of_getElem? (i := 112) rfl)))))
  obtain ⟨c10, j10, hK10⟩ := u_known (C := RX10) (T := TX10) (N := 8) (n := 8) hG inG_X10 (hts (.instantiable RX10 8) (List.mem_append_right _ (List.mem_append_left _ (List.mem_of_getElem? (i := 174) rfl))))
  obtain ⟨c11, j11, hK11⟩ := u_known (C := RX11) (T := TX11) (N := 10) (n := 10) hG inG_X11 (hts (.instantiable RX11 10) (List.mem_append_right _ (List.mem_append_left _ (List.mem_of_getElem? (i := 23) rfl))))
  obtain ⟨c12, j12, hK12⟩ := u_known (C := RX12) (T := TX12) (N := 98) (n := 98) hG inG_X12 (hts (.instantiable RX12 98) (List.mem_append_right _ (List.mem_append_right _ (List.mem_append_right _ (List.mem_append_right _ (List.mem_append_right _ (List.mem_append_right _ (List.mem_append_left _ (List.mem_of_getElem? (i := 52) rfl)))))))))
  obtain ⟨a0, hR0⟩ := arr_start (ty := .byte) (hG _ ac_b) (fun C h => by cases h)
  obtain ⟨a1, hR1⟩ := arr_start (ty := .int) (hG _ ac_i) (fun C h => by cases h)
  obtain ⟨a2, hR2⟩ := arr_start (ty := .long) (hG _ ac_l) (fun C h => by cases h)
  obtain ⟨a3, hR3⟩ := arr_start (ty := .boolean) (hG _ ac_z) (fun C h => by cases h)
  refine ⟨(fun k => [c0, c1, c2, c3, c4, c5, c6, c7, c8, c9, c10, c11, c12].getD k c0, fun k => [j0, j1, j2, j3, j4, j5, j6, j7, j8, j9, j10, j11, j12].getD k j0), fun k => [a0, a1, a2, a3].getD k a0, ?_, ?_⟩
  · intro k q hq
    match k, hq with
    | 0, hq => cases hq; exact hK0
    | 1, hq => cases hq; exact hK1
    | 2, hq => cases hq; exact hK2
    | 3, hq => cases hq; exact hK3
    | 4, hq => cases hq; exact hK4
    | 5, hq => cases hq; exact hK5
    | 6, hq => cases hq; exact hK6
    | 7, hq => cases hq; exact hK7
    | 8, hq => cases hq; exact hK8
    | 9, hq => cases hq; exact hK9
    | 10, hq => cases hq; exact hK10
    | 11, hq => cases hq; exact hK11
    | 12, hq => cases hq; exact hK12
    | k + 13, hq => simp [vwCl] at hq
  · intro k q hq
    match k, hq with
    | 0, hq => cases hq; exact hR0
    | 1, hq => cases hq; exact hR1
    | 2, hq => cases hq; exact hR2
    | 3, hq => cases hq; exact hR3
    | k + 4, hq => simp [tyL] at hq
