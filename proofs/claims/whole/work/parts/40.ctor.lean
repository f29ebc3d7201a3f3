theorem ac_i : Cond.arrayClass .int ∈ Gw := gT1 (List.mem_of_getElem? (i := 61) rfl) rfl
theorem ac_b : Cond.arrayClass .byte ∈ Gw := gT1 (List.mem_of_getElem? (i := 62) rfl) rfl
theorem ac_l : Cond.arrayClass .long ∈ Gw := gT1 (List.mem_of_getElem? (i := 115) rfl) rfl
theorem ac_z : Cond.arrayClass .boolean ∈ Gw := gT7 (List.mem_of_getElem? (i := 113) rfl) rfl
theorem oi_w1 : Cond.instanceMethod objectInit ∈ Gw := gT1 (List.mem_of_getElem? (i := 28) rfl) rfl
theorem oi_w2 : Cond.code objectInit ⟨#[0xb1]⟩ 1 none ∈ Gw := gT1 (List.mem_of_getElem? (i := 29) rfl) rfl
theorem oi_X11 : Cond.methodLink RX11 1 objectInit ∈ Gw := gT1 (List.mem_of_getElem? (i := 27) rfl) rfl
theorem oi_X8 : Cond.methodLink RX8 3 objectInit ∈ Gw := gT1 (List.mem_of_getElem? (i := 35) rfl) rfl
theorem oi_X1 : Cond.methodLink RX1 3 objectInit ∈ Gw := gT1 (List.mem_of_getElem? (i := 68) rfl) rfl
theorem oi_X3 : Cond.methodLink RX3 3 objectInit ∈ Gw := gT1 (List.mem_of_getElem? (i := 121) rfl) rfl
theorem oi_X7 : Cond.methodLink RX7 3 objectInit ∈ Gw := gT1 (List.mem_of_getElem? (i := 127) rfl) rfl
theorem oi_X10 : Cond.methodLink RX10 3 objectInit ∈ Gw := gT1 (List.mem_of_getElem? (i := 178) rfl) rfl
theorem oi_X5 : Cond.methodLink RX5 3 objectInit ∈ Gw := gT1 (List.mem_of_getElem? (i := 209) rfl) rfl
theorem oi_X6 : Cond.methodLink RX6 3 objectInit ∈ Gw := gT1 (List.mem_of_getElem? (i := 217) rfl) rfl
theorem oi_X4 : Cond.methodLink RX4 3 objectInit ∈ Gw := gT2 (List.mem_of_getElem? (i := 0) rfl) rfl
theorem oi_X0 : Cond.methodLink RX0 3 objectInit ∈ Gw := gT2 (List.mem_of_getElem? (i := 79) rfl) rfl
theorem oi_X2 : Cond.methodLink RX2 3 objectInit ∈ Gw := gT2 (List.mem_of_getElem? (i := 100) rfl) rfl
theorem oi_X9 : Cond.methodLink RX9 3 objectInit ∈ Gw := gT2 (List.mem_of_getElem? (i := 116) rfl) rfl
theorem oi_X12 : Cond.methodLink RX12 1 objectInit ∈ Gw := gT6 (List.mem_of_getElem? (i := 56) rfl) rfl
/-! ===== constructors: worlds that grow ===== -/
def stZ : StT := (fun _ => 0, fun _ _ => 0, fun _ => 0, fun _ _ => 0)
def EI (U : State) : Prop := va_Nw (.methodLinkNest "WorldProver" 15 yX8_init "WorldProver") U ∧ va_Nw (.methodLinkNest "WorldProver$Search" 22 yX6_init "WorldProver") U ∧ va_Nw (.methodLinkNest "WorldProver$Search" 29 yX4_init "WorldProver") U
theorem EI.warm {s U : State} (hW : s.WarmedH U.vm) (h : EI s) : EI U := ⟨va_Nw.warmM hW h.1, va_Nw.warmM hW h.2.1, va_Nw.warmM hW h.2.2⟩
theorem EI.same {u U : State} (hv : U.vm = u.vm) (h : EI u) : EI U := ⟨va_Nw.same rfl hv.symm h.1, va_Nw.same rfl hv.symm h.2.1, va_Nw.same rfl hv.symm h.2.2⟩
def QI (D : va_G) (k0 : Nat) (w' : (Nat → Nat) → va_W) (A : Nat → Prop) : Array Value → State → Outcome → State → Prop := fun _ st0 oc t => (∃ u : Nat → Nat, oc = .returned none ∧ u 0 = k0 ∧ va_P D vwCl (w' u) t.heap ∧ va_D A (w' u)) ∧ va_F A st0 t
def CI (l : Launch) (y : MethodName) (bytes : ByteArray) (maxL fr lo mc ms : Nat) (D : va_G) (cy : Nat → ClassId) (ee : EE) (w : va_W) (k0 : Nat) (w' : (Nat → Nat) → va_W) (As : List Value) : Prop :=
  ∀ sz : Nat, Met l y (.code y bytes maxL none :: Gw) { frames := fr, cells := mc, slots := ms, locals := lo } (va_Pc As (fun U => U.heap.size = sz ∧ va_P D vwCl w U.heap ∧ va_K D vwCl (tyL cy) U ∧ va_D (fun _ => True) w ∧ EV ee (va_A w sz) U U.heap ∧ EI U)) (QI D k0 w' (va_A w sz)) mc ms (va_A w sz)
theorem CI.of {l : Launch} {y : MethodName} {bytes : ByteArray} {maxL fr lo mc ms : Nat} {D : va_G} {cy : Nat → ClassId} {ee : EE} {w : va_W} {k0 : Nat} {w' : (Nat → Nat) → va_W} {As : List Value} (hy : plainName y.cls = true) (hlen : (lg_sl As).length ≤ maxL)
    (body : ∀ (p : Program) (e : Env) (s : State) (m : MethodId) (args : Array Value) (below : List Frame) (meth : Method) (c : Code) (A : Nat → Prop), CallFix p m c bytes maxL s args (.code y bytes maxL none :: Gw) y.cls → meth.sig.returnType = none → meth.locks = false → meth.name = y.name → va_K D vwCl (tyL cy) s → EV ee A s s.heap → EI s → (∀ q, s.heap.size ≤ q → A q) → va_P D vwCl w s.heap → va_D A w → va_S A s.heap s.heap [] → ∀ ls : Array Slot, lv_has ls maxL (lv_args 0 As) →
      W p l e { frames := fr, cells := mc, slots := ms, locals := lo } s m args below meth c s.heap [] 0 0 (MQ below (QI D k0 w' A) args s mc ms A) (F0 m 0 ls [])) : CI l y bytes maxL fr lo mc ms D cy ee w k0 w' As := by
  intro sz
  refine Met.ofW (cc := bytes) (maxL := maxL) (ret := none) hy rfl ?_
  intro p e s m args below meth c s₁ B hml hv
  obtain ⟨rfl, hsz, hP, hK, hD0, hE, hI⟩ := hv
  subst hsz
  have hts := atoms_spec (ws := .code y bytes maxL none :: Gw) B.pre
  have hl := lv_entry As hlen
  rw [lg_entry_eq]
  exact body p e s m As.toArray below meth c (va_A w s.heap.size) ⟨B.exec, B.bytes, hml, findClass_of_methodNamed B.named, hts⟩ B.returns B.notSynchronized (name_of_methodNamed B.named B.method).1 hK hE hI (fun q h => Or.inr h) hP hD0.self va_S.rf _ hl
section CTOR
variable {p : Program} {l : Launch} {e : Env} {R : Room} {s : State} {m : MethodId} {args : Array Value} {below : List Frame} {meth : Method} {c : Code} {H : Heap} {locs : List Loc} {Q : State → Prop} {cells slots : Nat}
variable {cc : ByteArray} {nL pc : Nat} {ls : Array Slot} {rest : List Value} {D : va_G} {A : Nat → Prop} {ws wl : va_W} {Ts : List Cond} {own : String} {cw : Cond}
variable {cy : Nat → ClassId} {ee : EE} {y : MethodName} {bytes : ByteArray} {maxL fr lo mc ms : Nat} {As : List Value} {index n : Nat}
theorem ret_I {k0 : Nat} {w' : (Nat → Nat) → va_W} (u : Nat → Nat) (F : CallFix p m c cc nL s args Ts own) (hr : meth.sig.returnType = none) (hk : meth.locks = false) (hu : u 0 = k0) (hP : va_P D vwCl (w' u) H) (hD : va_D A (w' u)) (hS : va_S A s.heap H locs) (hdg : decode cc pc = .ok (.return_, 1)) : W p l e R s m args below meth c H locs mc ms (MQ below (QI D k0 w' A) args s mc ms A) (F0 m pc ls []) :=
  W.vret F.1 F.2.1 hr (fun t ht _ => ⟨⟨u, rfl, hu, by rw [ht]; exact hP, hD⟩, hS.F ht⟩) hS.2.2 hdg hk
theorem nw_i {N : Nat} {x : Int32} (F : CallFix p m c cc nL s args (cw :: Gw) own) (K : va_K D vwCl (tyL cy) s) (hP : va_P D vwCl ws H) (hD : va_D A ws) (hS : va_S A s.heap H locs) (hA : ∀ q, s.heap.size ≤ q → A q) (hn : ¬ x < 0) (hN : x.toNatClampNeg = N) (hb : N * componentBytes .int ≤ 536870912) (hc : cells + 1 ≤ R.cells) (hs : slots + N ≤ R.slots) (hd : decode cc pc = .ok (.newarray .int, 2))
    (kk : ∀ (q : Nat) (H1 : Heap), va_P D vwCl (ws ++ [(q, .inl (cy 1, N, .inl (fun _ => 0)))]) H1 → va_D A (ws ++ [(q, .inl (cy 1, N, .inl (fun _ => 0)))]) → va_S A s.heap H1 locs → W p l e R s m args below meth c H1 locs (cells + 1) (slots + N) Q (F0 m (pc + 2) ls (.ref q :: rest))) : W p l e R s m args below meth c H locs cells slots Q (F0 m pc ls (.int x :: rest)) := by
  refine va_newa (atype := .int) F.1 F.2.1 (F.2.2.2.2 _ (List.mem_cons_of_mem _ ac_i)) rfl K hP hD hS hA (a0 := (N, .inl (fun _ => 0))) (fun cA => rfl) hn hN hb hc hs hd (fun q cA H1 K1 hP hD hS => ?_)
  have e : cA = cy 1 := Option.some.inj (((K1.2 4 (cA, .int) rfl).2 : s.vm.findClass _ = some cA).symm.trans ((K.2 1 (cy 1, .int) rfl).2 : s.vm.findClass _ = some (cy 1)))
  subst e
  exact kk q H1 hP hD hS
theorem nw_b {N : Nat} {x : Int32} (F : CallFix p m c cc nL s args (cw :: Gw) own) (K : va_K D vwCl (tyL cy) s) (hP : va_P D vwCl ws H) (hD : va_D A ws) (hS : va_S A s.heap H locs) (hA : ∀ q, s.heap.size ≤ q → A q) (hn : ¬ x < 0) (hN : x.toNatClampNeg = N) (hb : N * componentBytes .byte ≤ 536870912) (hc : cells + 1 ≤ R.cells) (hs : slots + N ≤ R.slots) (hd : decode cc pc = .ok (.newarray .byte, 2))
    (kk : ∀ (q : Nat) (H1 : Heap), va_P D vwCl (ws ++ [(q, .inl (cy 0, N, .inl (fun _ => 0)))]) H1 → va_D A (ws ++ [(q, .inl (cy 0, N, .inl (fun _ => 0)))]) → va_S A s.heap H1 locs → W p l e R s m args below meth c H1 locs (cells + 1) (slots + N) Q (F0 m (pc + 2) ls (.ref q :: rest))) : W p l e R s m args below meth c H locs cells slots Q (F0 m pc ls (.int x :: rest)) := by
  refine va_newa (atype := .byte) F.1 F.2.1 (F.2.2.2.2 _ (List.mem_cons_of_mem _ ac_b)) rfl K hP hD hS hA (a0 := (N, .inl (fun _ => 0))) (fun cA => rfl) hn hN hb hc hs hd (fun q cA H1 K1 hP hD hS => ?_)
  have e : cA = cy 0 := Option.some.inj (((K1.2 4 (cA, .byte) rfl).2 : s.vm.findClass _ = some cA).symm.trans ((K.2 0 (cy 0, .byte) rfl).2 : s.vm.findClass _ = some (cy 0)))
  subst e
  exact kk q H1 hP hD hS
theorem nw_z {N : Nat} {x : Int32} (F : CallFix p m c cc nL s args (cw :: Gw) own) (K : va_K D vwCl (tyL cy) s) (hP : va_P D vwCl ws H) (hD : va_D A ws) (hS : va_S A s.heap H locs) (hA : ∀ q, s.heap.size ≤ q → A q) (hn : ¬ x < 0) (hN : x.toNatClampNeg = N) (hb : N * componentBytes .boolean ≤ 536870912) (hc : cells + 1 ≤ R.cells) (hs : slots + N ≤ R.slots) (hd : decode cc pc = .ok (.newarray .boolean, 2))
    (kk : ∀ (q : Nat) (H1 : Heap), va_P D vwCl (ws ++ [(q, .inl (cy 3, N, .inl (fun _ => 0)))]) H1 → va_D A (ws ++ [(q, .inl (cy 3, N, .inl (fun _ => 0)))]) → va_S A s.heap H1 locs → W p l e R s m args below meth c H1 locs (cells + 1) (slots + N) Q (F0 m (pc + 2) ls (.ref q :: rest))) : W p l e R s m args below meth c H locs cells slots Q (F0 m pc ls (.int x :: rest)) := by
  refine va_newa (atype := .boolean) F.1 F.2.1 (F.2.2.2.2 _ (List.mem_cons_of_mem _ ac_z)) rfl K hP hD hS hA (a0 := (N, .inl (fun _ => 0))) (fun cA => rfl) hn hN hb hc hs hd (fun q cA H1 K1 hP hD hS => ?_)
  have e : cA = cy 3 := Option.some.inj (((K1.2 4 (cA, .boolean) rfl).2 : s.vm.findClass _ = some cA).symm.trans ((K.2 3 (cy 3, .boolean) rfl).2 : s.vm.findClass _ = some (cy 3)))
  subst e
  exact kk q H1 hP hD hS
theorem nw_l {N : Nat} {x : Int32} (F : CallFix p m c cc nL s args (cw :: Gw) own) (K : va_K D vwCl (tyL cy) s) (hP : va_P D vwCl ws H) (hD : va_D A ws) (hS : va_S A s.heap H locs) (hA : ∀ q, s.heap.size ≤ q → A q) (hn : ¬ x < 0) (hN : x.toNatClampNeg = N) (hb : N * componentBytes .long ≤ 536870912) (hc : cells + 1 ≤ R.cells) (hs : slots + N ≤ R.slots) (hd : decode cc pc = .ok (.newarray .long, 2))
    (kk : ∀ (q : Nat) (H1 : Heap), va_P D vwCl (ws ++ [(q, .inl (cy 2, N, .inr (.inl (fun _ => 0))))]) H1 → va_D A (ws ++ [(q, .inl (cy 2, N, .inr (.inl (fun _ => 0))))]) → va_S A s.heap H1 locs → W p l e R s m args below meth c H1 locs (cells + 1) (slots + N) Q (F0 m (pc + 2) ls (.ref q :: rest))) : W p l e R s m args below meth c H locs cells slots Q (F0 m pc ls (.int x :: rest)) := by
  refine va_newa (atype := .long) F.1 F.2.1 (F.2.2.2.2 _ (List.mem_cons_of_mem _ ac_l)) rfl K hP hD hS hA (a0 := (N, .inr (.inl (fun _ => 0)))) (fun cA => rfl) hn hN hb hc hs hd (fun q cA H1 K1 hP hD hS => ?_)
  have e : cA = cy 2 := Option.some.inj (((K1.2 4 (cA, .long) rfl).2 : s.vm.findClass _ = some cA).symm.trans ((K.2 2 (cy 2, .long) rfl).2 : s.vm.findClass _ = some (cy 2)))
  subst e
  exact kk q H1 hP hD hS
/-- the callee's cell stood last; what it made of it stands behind the others, which are as they were -/
theorem join_last {q : Nat} {e0 : va_E} {w1 : va_W} {H H1 : Heap} (hP : va_P D vwCl (wl ++ [(q, e0)]) H) (hD : va_D A (wl ++ [(q, e0)])) (hk : ∀ a : Nat, a < H.size → ¬ va_A [(q, e0)] H.size a → H1[a]? = H[a]?) (hA : ∀ a, va_A [(q, e0)] H.size a → A a) (hP1 : va_P D vwCl w1 H1) (hD1 : va_D (va_A [(q, e0)] H.size) w1) : va_P D vwCl (wl ++ w1) H1 ∧ va_D A (wl ++ w1) := by
  have inl : ∀ (k : Nat) (x : Nat × va_E), wl[k]? = some x → (wl ++ [(q, e0)])[k]? = some x := fun k x h => by
    rw [List.getElem?_append_left (List.getElem?_eq_some_iff.mp h).1]; exact h
  have lastE : (wl ++ [(q, e0)])[wl.length]? = some (q, e0) := by simp
  have apart : ∀ (k : Nat) (x : Nat × va_E), wl[k]? = some x → x.1 < H.size ∧ ¬ va_A [(q, e0)] H.size x.1 := by
    intro k x hx
    have hl := (hP k x (inl k x hx)).lt
    refine ⟨hl, fun h => ?_⟩
    rcases h with ⟨k2, e2, h⟩ | h
    · have hz : k2 = 0 := by
        have := (List.getElem?_eq_some_iff.mp h).1
        simp at this; exact this
      subst hz
      cases h
      have h9 := hD.1 k wl.length x (x.1, _) (inl k x hx) lastE rfl
      have h8 := (List.getElem?_eq_some_iff.mp hx).1
      omega
    · omega
  have hDl : va_D A wl := ⟨fun i j x y hi hj hxy => hD.1 i j x y (inl i x hi) (inl j y hj) hxy, fun k x hx => hD.2 k x (inl k x hx)⟩
  refine ⟨va_P.app (fun k x hx => ?_) hP1, va_D.app hDl (hD1.weaken (fun _ x _ h => hA x.1 h)) (fun i j x y hx hy hxy => (apart i x hx).2 (by rw [hxy]; exact hD1.2 j y hy))⟩
  obtain ⟨g1, g2⟩ := apart k x hx
  exact (hP k x (inl k x hx)).kept (hk x.1 g1 g2)
theorem sub_last {q : Nat} {e0 : va_E} (hD : va_D A (wl ++ [(q, e0)])) (hS : va_S A s.heap H locs) (hA : ∀ q, s.heap.size ≤ q → A q) : ∀ a, va_A [(q, e0)] H.size a → A a := by
  intro a h
  rcases h with ⟨k2, e2, h⟩ | h
  · have hz : k2 = 0 := by
      have := (List.getElem?_eq_some_iff.mp h).1
      simp at this; exact this
    subst hz
    cases h
    exact hD.2 wl.length (q, e0) (by simp)
  · exact hA a (Nat.le_trans hS.1 h)
theorem pre_I {q : Nat} {e0 : va_E} {As : List Value} (K : va_K D vwCl (tyL cy) s) (E : EV ee A s s.heap) (I : EI s) (hP : va_P D vwCl (wl ++ [(q, e0)]) H) (hD : va_D A (wl ++ [(q, e0)])) (hS : va_S A s.heap H locs) (hA : ∀ q, s.heap.size ≤ q → A q) : PreS s H (va_Pc As (fun U => U.heap.size = H.size ∧ va_P D vwCl [(q, e0)] U.heap ∧ va_K D vwCl (tyL cy) U ∧ va_D (fun _ => True) [(q, e0)] ∧ EV ee (va_A [(q, e0)] H.size) U U.heap ∧ EI U)) As :=
  ⟨fun a U g mk x => by
      obtain ⟨q0, q1, qP, qK, qD, qE, qI⟩ := x
      exact ⟨q0, q1, qP, va_K.moved (u := U) (U := U.calling g mk a) (Vm.Alike.refl U.vm) qK, qD, EV.same (u := U) (U := U.calling g mk a) rfl qE, EI.same (u := U) (U := U.calling g mk a) rfl qI⟩,
   fun U hU hW => ⟨rfl, by rw [hU], by
      rw [hU]
      intro k x hx
      have hz : k = 0 := by
        have := (List.getElem?_eq_some_iff.mp hx).1
        simp at this; exact this
      subst hz
      cases hx
      exact hP wl.length (q, e0) (by simp), va_K.moved hW.alike K, ⟨fun i j x y hi hj _ => by
        have h1 := (List.getElem?_eq_some_iff.mp hi).1
        have h2 := (List.getElem?_eq_some_iff.mp hj).1
        simp at h1 h2; omega, fun _ _ _ => trivial⟩, by
      rw [hU]
      exact EV.warm hW (EV.narrow (sub_last hD hS hA) (EV.kept (fun a h1 h2 => hS.2.1 a h1 h2) E)), EI.warm hW I⟩⟩
theorem go_I {q : Nat} {e0 : va_E} {w' : (Nat → Nat) → va_W} {st0 : List Value} {a : Array Value} (hP : va_P D vwCl (wl ++ [(q, e0)]) H) (hD : va_D A (wl ++ [(q, e0)])) (hS : va_S A s.heap H locs) (hA : ∀ q, s.heap.size ≤ q → A q) (hr : va_Run p l e R s m args below meth c H locs cells slots mc ms (F0 m pc ls st0) rest (QI D q w' (va_A [(q, e0)] H.size) a) (va_A [(q, e0)] H.size))
    (kk : ∀ (u : Nat → Nat) (H1 : Heap) (locs1 : List Loc), u 0 = q → va_P D vwCl (wl ++ w' u) H1 → va_D A (wl ++ w' u) → va_S A s.heap H1 locs1 → W p l e R s m args below meth c H1 locs1 (cells + mc) (slots + ms) Q (F0 m (pc + 3) ls rest)) : W p l e R s m args below meth c H locs cells slots Q (F0 m pc ls st0) := by
  intro T hT X
  obtain ⟨v, st₀, t, T', L, h0, X', hL, e1, e2, ⟨⟨u, hv, hu, hP1, hD1⟩, hz, hk⟩, st⟩ := hr T hT X
  cases hv
  rw [h0] at hz hk
  rw [← e1] at hP1 hz
  have hAs := sub_last hD hS hA
  have hk' : ∀ a : Nat, a < H.size → ¬ va_A [(q, e0)] H.size a → T'.heap[a]? = H[a]? := fun a h1 h2 => by rw [e1]; exact hk a h1 h2
  obtain ⟨gP, gD⟩ := join_last hP hD hk' hAs hP1 hD1
  obtain ⟨t2, a1, b1⟩ := kk u T'.heap (locs ++ L) hu gP gD ⟨Nat.le_trans hS.1 hz, fun x h1 h2 => by rw [hk' x (Nat.lt_of_lt_of_le h1 hS.1) (fun z => h2 (hAs x z))]; exact hS.2.1 x h1 h2, fun x hx => by
      rcases List.mem_append.mp hx with h | h
      · exact hS.2.2 x h
      · exact hAs _ (hL x h)⟩ T' rfl X'
  exact ⟨t2, st t2 a1, b1⟩
theorem call_I {q : Nat} {e0 : va_E} {w' : (Nat → Nat) → va_W} (F : CallFix p m c cc nL s args (cw :: Gw) own) (K : va_K D vwCl (tyL cy) s) (E : EV ee A s s.heap) (I : EI s) (hA : ∀ q, s.heap.size ≤ q → A q) (hP : va_P D vwCl (wl ++ [(q, e0)]) H) (hD : va_D A (wl ++ [(q, e0)])) (hS : va_S A s.heap H locs) (hC : CI l y bytes maxL fr lo mc ms D cy ee [(q, e0)] q w' (.ref q :: As))
    (hw : Cond.code y bytes maxL none ∈ Gw ∧ Cond.initialized y.cls ∈ Gw ∧ Cond.methodLink own index y ∈ Gw ∧ Cond.instanceMethod y ∈ Gw) (hy : y.name = "<init>") (hd : y.cls ≠ "java/lang/invoke/MethodHandle" ∧ y.cls ≠ "java/lang/invoke/VarHandle" ∧ (parseMethodDescriptor y.desc).map (fun d => d.parameters.length) = some n) (hR : fr + 1 ≤ R.frames ∧ 8 + (maxL + 11) + lo ≤ R.locals) (hn : As.length = n) (hl : ls.size = nL) (hst : (rest.map fun v => v.category).sum ≤ 8) (hdg : decode cc pc = .ok (.invokespecial index, 3)) (hf : cells + mc ≤ R.cells ∧ slots + ms ≤ R.slots)
    (kk : ∀ (u : Nat → Nat) (H1 : Heap) (locs1 : List Loc), u 0 = q → va_P D vwCl (wl ++ w' u) H1 → va_D A (wl ++ w' u) → va_S A s.heap H1 locs1 → W p l e R s m args below meth c H1 locs1 (cells + mc) (slots + ms) Q (F0 m (pc + 3) ls rest)) : W p l e R s m args below meth c H locs cells slots Q (F0 m pc ls (As.reverse ++ .ref q :: rest)) := by
  have hG : GoodIn (cw :: Gw) (Cond.code y bytes maxL none :: Gw) := good_of (ws := []) hw.1 (fun w h => by cases h)
  exact go_I hP hD hS hA (va_runI (As := As) (rest := rest) F (hC H.size) (cwI n F.2.2.2.2 hG rfl rfl rfl (F.2.2.2.2 _ (List.mem_cons_of_mem _ hw.2.1)) (F.2.2.2.2 _ (List.mem_cons_of_mem _ hw.2.2.1)) (F.2.2.2.2 _ (List.mem_cons_of_mem _ hw.2.2.2)) hy hd hR) (pre_I K E I hP hD hS hA) rfl hn hl rfl (lv_room hst) hdg hf) kk
theorem call_IN {q : Nat} {e0 : va_E} {w' : (Nat → Nat) → va_W} {host : String} (F : CallFix p m c cc nL s args (cw :: Gw) own) (K : va_K D vwCl (tyL cy) s) (E : EV ee A s s.heap) (I : EI s) (hA : ∀ q, s.heap.size ≤ q → A q) (hP : va_P D vwCl (wl ++ [(q, e0)]) H) (hD : va_D A (wl ++ [(q, e0)])) (hS : va_S A s.heap H locs) (hC : CI l y bytes maxL fr lo mc ms D cy ee [(q, e0)] q w' (.ref q :: As))
    (hw : Cond.code y bytes maxL none ∈ Gw ∧ Cond.initialized y.cls ∈ Gw ∧ Cond.instanceMethod y ∈ Gw) (hN : va_Nw (.methodLinkNest own index y host) s) (hy : y.name = "<init>") (hd : y.cls ≠ "java/lang/invoke/MethodHandle" ∧ y.cls ≠ "java/lang/invoke/VarHandle" ∧ (parseMethodDescriptor y.desc).map (fun d => d.parameters.length) = some n) (hR : fr + 1 ≤ R.frames ∧ 8 + (maxL + 11) + lo ≤ R.locals) (hn : As.length = n) (hl : ls.size = nL) (hst : (rest.map fun v => v.category).sum ≤ 8) (hdg : decode cc pc = .ok (.invokespecial index, 3)) (hf : cells + mc ≤ R.cells ∧ slots + ms ≤ R.slots)
    (kk : ∀ (u : Nat → Nat) (H1 : Heap) (locs1 : List Loc), u 0 = q → va_P D vwCl (wl ++ w' u) H1 → va_D A (wl ++ w' u) → va_S A s.heap H1 locs1 → W p l e R s m args below meth c H1 locs1 (cells + mc) (slots + ms) Q (F0 m (pc + 3) ls rest)) : W p l e R s m args below meth c H locs cells slots Q (F0 m pc ls (As.reverse ++ .ref q :: rest)) := by
  have hG : GoodIn (cw :: Gw) (Cond.code y bytes maxL none :: Gw) := good_of (ws := []) hw.1 (fun w h => by cases h)
  exact go_I hP hD hS hA (va_runIN (As := As) (rest := rest) F (hC H.size) ⟨va_cnB n F.2.2.2.2 hG rfl rfl rfl hN (F.2.2.2.2 _ (List.mem_cons_of_mem _ hw.2.1)) hd hR, hy, F.2.2.2.2 _ (List.mem_cons_of_mem _ hw.2.2)⟩ (pre_I K E I hP hD hS hA) rfl hn hl rfl (lv_room hst) hdg hf) kk
theorem call_Vc {w w' : va_W} {ret : Option FieldType} {rv : Option Value} {b : Nat} (q0 ci : Nat) {q : vw_C} {fs : List Value} (F : CallFix p m c cc nL s args (cw :: Gw) own) (K : va_K D vwCl (tyL cy) s) (E : EV ee A s s.heap) (hA : ∀ q, s.heap.size ≤ q → A q) (Z : ZG D w A s H locs) (hC : CT l y bytes maxL ret fr lo D cy ee w w' (.ref b :: As) rv)
    (hw : Cond.code y bytes maxL ret ∈ Gw ∧ Cond.methodLink own index y ∈ Gw ∧ Cond.instanceMethod y ∈ Gw ∧ Cond.selects q.1 y y ∈ Gw ∧ Cond.initialized q.1 ∈ Gw) (hd : y.cls = q.1 ∧ y.cls ≠ "java/lang/invoke/MethodHandle" ∧ y.cls ≠ "java/lang/invoke/VarHandle" ∧ (parseMethodDescriptor y.desc).map (fun d => d.parameters.length) = some n)
    (hc : vwCl[ci]? = some q) (he : w[q0]? = some (b, .inr (ci, fs))) (hR : fr + 1 ≤ R.frames ∧ 8 + (maxL + 11) + lo ≤ R.locals) (hf : cells ≤ R.cells ∧ slots ≤ R.slots) (hn : As.length = n) (hl : ls.size = nL) (hst : (rest.map fun v => v.category).sum ≤ 8) (hdg : decode cc pc = .ok (.invokevirtual index, 3))
    (kk : ∀ (H1 : Heap) (locs1 : List Loc), ZG D w' A s H1 locs1 → W p l e R s m args below meth c H1 locs1 cells slots Q (F0 m (pc + 3) ls (rv.toList ++ rest))) : W p l e R s m args below meth c H locs cells slots Q (F0 m pc ls (As.reverse ++ .ref b :: rest)) := by
  have hG : GoodIn (cw :: Gw) (wsV own index q.1 y (Cond.code y bytes maxL ret :: Gw)) := good_of hw.1 (fun w h => by
    simp only [List.mem_cons, List.not_mem_nil, or_false] at h
    rcases h with h | h | h | h
    · rw [h]; exact hw.2.1
    · rw [h]; exact hw.2.2.1
    · rw [h]; exact hw.2.2.2.1
    · rw [h]; exact hw.2.2.2.2)
  have hp := pre_of (As := .ref b :: As) K E Z hA
  have hr := va_runV (As := As) (rest := rest) (e := e) (below := below) (meth := meth) (locs := locs) (cells := cells) (slots := slots) (g := F0 m pc ls (As.reverse ++ .ref b :: rest)) F (hC H.size) (cwV n F.2.2.2.2 hG rfl rfl rfl hd hR) ⟨hp.1, va_recv K Z.1 hc he, hp.2⟩ rfl hn hl rfl (lv_room hst) hdg hf
  intro T hT X
  obtain ⟨v, st₀, t, T', L, h0, X', hL, e1, e2, ⟨⟨hv, hP, hD⟩, hz, hk⟩, st⟩ := hr T hT X
  cases hv
  rw [h0] at hz hk
  have hS := Z.2.2
  obtain ⟨t2, a1, b1⟩ := kk T'.heap (locs ++ L) ⟨by rw [e1]; exact hP, hD.weaken (fun _ _ _ h => sub_A Z hA _ h), Nat.le_trans hS.1 (by rw [e1]; exact hz), fun q h1 h2 => by rw [e1, hk q (Nat.lt_of_lt_of_le h1 hS.1) (fun z => h2 (sub_A Z hA q z))]; exact hS.2.1 q h1 h2, fun q hq => by
      rcases List.mem_append.mp hq with h | h
      · exact hS.2.2 q h
      · exact sub_A Z hA _ (hL q h)⟩ T' rfl X'
  exact ⟨t2, st t2 a1, b1⟩
end CTOR
theorem wx0 : Cond.classLink RX3 9 RX7 ∈ Gw := gT1 (List.mem_of_getElem? (i := 122) rfl) rfl
theorem wx1 : Cond.instantiable RX7 7 ∈ Gw := gT1 (List.mem_of_getElem? (i := 123) rfl) rfl
theorem wx2 : Cond.classLink RX5 9 RX7 ∈ Gw := gT1 (List.mem_of_getElem? (i := 210) rfl) rfl
theorem wx3 : Cond.classLink RX5 20 RX6 ∈ Gw := gT1 (List.mem_of_getElem? (i := 212) rfl) rfl
theorem wx4 : Cond.instantiable RX6 5 ∈ Gw := gT1 (List.mem_of_getElem? (i := 213) rfl) rfl
theorem wx5 : Cond.classLink RX5 27 RX4 ∈ Gw := gT1 (List.mem_of_getElem? (i := 235) rfl) rfl
theorem wx6 : Cond.instantiable RX4 7 ∈ Gw := gT1 (List.mem_of_getElem? (i := 236) rfl) rfl
theorem wx7 : Cond.classLink RX0 9 RX1 ∈ Gw := gT2 (List.mem_of_getElem? (i := 80) rfl) rfl
theorem wx8 : Cond.instantiable RX1 9 ∈ Gw := gT1 (List.mem_of_getElem? (i := 64) rfl) rfl
def wF2 (ad : Nat → Nat) (cy : Nat → ClassId) (st : StT) : va_W := [
  (ad 0, .inr (1, [.int 2000, .ref (ad 3), .ref (ad 4), .ref (ad 5), .ref (ad 1), .ref (ad 6), .ref (ad 2), .int (st.1 0), .int (st.1 1)])),
  (ad 1, .inl (cy 1, 1024, .inl (st.2.1 0))),
  (ad 2, .inl (cy 2, 24, .inr (.inl (st.2.2.2 0)))),
  (ad 3, .inl (cy 1, 2000, .inl (st.2.1 1))),
  (ad 4, .inl (cy 1, 2000, .inl (st.2.1 2))),
  (ad 5, .inl (cy 1, 2000, .inl (st.2.1 3))),
  (ad 6, .inl (cy 1, 2000, .inl (st.2.1 4)))]

def f_X1_chainOf_wF2 (n : Nat) (st : StT) (x0 : Int32) (x1 : Int32) (x2 : Int32) : Option (Int32 × StT) := some (((((x0 * (331 : Int32)) + (x1 * (613 : Int32))) + (x2 * (37 : Int32))) &&& (1023 : Int32)), st)
set_option maxRecDepth 100000 in
set_option maxHeartbeats 4000000 in
theorem c_X1_chainOf_wF2 {l : Launch} {D : va_G} {ad : Nat → Nat} {cy : Nat → ClassId} {ee : EE} {n : Nat} {st : StT} {x0 : Int32} {x1 : Int32} {x2 : Int32} {res : (Int32 × StT)} (hf : f_X1_chainOf_wF2 n st x0 x1 x2 = some res) : CT l yX1_chainOf cX1_chainOf 3 (some .int) 0 0 D cy ee (wF2 ad cy st) (wF2 ad cy res.2) [.int x0, .int x1, .int x2] (some (.int res.1)) := by
  refine CT.of (by decide +kernel) (Nat.le_of_ble_eq_true rfl) ?_
  intro p e s m args below meth c A F hr hk K E hA Z ls hl
  have hl : lv_has ls 3 [(0, .int x0), (1, .int x1), (2, .int x2)] := hl
  have hx := F.1
  have hb := F.2.1
  unfold f_X1_chainOf_wF2 at hf
  refine lv_iload_n hx hb dX1_chainOf_0 rfl (lv_at hl 0 rfl) ?_
  refine lv_sipush (v := 331) hx hb dX1_chainOf_1 (by decide) ?_
  refine lv_imul hx hb dX1_chainOf_4 ?_
  refine lv_iload_n hx hb dX1_chainOf_5 rfl (lv_at hl 1 rfl) ?_
  refine lv_sipush (v := 613) hx hb dX1_chainOf_6 (by decide) ?_
  refine lv_imul hx hb dX1_chainOf_9 ?_
  refine lv_iadd hx hb dX1_chainOf_10 ?_
  refine lv_iload_n hx hb dX1_chainOf_11 rfl (lv_at hl 2 rfl) ?_
  refine lv_bipush (v := 37) hx hb dX1_chainOf_12 (by decide) ?_
  refine lv_imul hx hb dX1_chainOf_14 ?_
  refine lv_iadd hx hb dX1_chainOf_15 ?_
  refine lv_sipush (v := 1023) hx hb dX1_chainOf_16 (by decide) ?_
  refine lv_iand hx hb dX1_chainOf_19 ?_
  have hf := Option.some.inj hf
  subst hf
  exact ret_i F hr hk Z dX1_chainOf_20
def f_X1_findIn_wF2_77 (n : Nat) (k17 : StT → Int32 → Int32 → Int32 → Int32 → Int32 → Option (Int32 × StT)) (st : StT) (x2 : Int32) (x3 : Int32) (x4 : Int32) (x5 : Int32) (x6 : Int32) : Option (Int32 × StT) := if inB x5 2000 = true then (k17 st x2 x3 x4 ((st.2.1 4 (x5).toNatClampNeg) - (1 : Int32)) (x6 + (1 : Int32))) else none
def f_X1_findIn_wF2_17 (n : Nat) : Nat → StT → Int32 → Int32 → Int32 → Int32 → Int32 → Option (Int32 × StT)
  | 0, _, _, _, _, _, _ => none
  | k + 1, st, x2, x3, x4, x5, x6 => if (st.1 0) ≤ x6 then (some ((-1 : Int32), st)) else (if x5 < 0 then (some ((-1 : Int32), st)) else (if (2000 : Int32) ≤ x5 then (some ((-1 : Int32), st)) else (if inB x5 2000 = true then (if (st.2.1 1 (x5).toNatClampNeg) = x2 then (if inB x5 2000 = true then (if (st.2.1 2 (x5).toNatClampNeg) = x3 then (if inB x5 2000 = true then (if (st.2.1 3 (x5).toNatClampNeg) = x4 then (some (x5, st)) else (f_X1_findIn_wF2_77 n (f_X1_findIn_wF2_17 n k) st x2 x3 x4 x5 x6)) else none) else (f_X1_findIn_wF2_77 n (f_X1_findIn_wF2_17 n k) st x2 x3 x4 x5 x6)) else none) else (f_X1_findIn_wF2_77 n (f_X1_findIn_wF2_17 n k) st x2 x3 x4 x5 x6)) else none)))
def f_X1_findIn_wF2 (n : Nat) (st : StT) (x1 : Int32) (x2 : Int32) (x3 : Int32) (x4 : Int32) : Option (Int32 × StT) := if inB (x1 &&& (1023 : Int32)) 1024 = true then (f_X1_findIn_wF2_17 n n st x2 x3 x4 ((st.2.1 0 ((x1 &&& (1023 : Int32))).toNatClampNeg) - (1 : Int32)) (0 : Int32)) else none
section
variable {p : Program} {l : Launch} {e : Env} {R : Room} {s : State} {m : MethodId} {args : Array Value} {below : List Frame} {meth : Method} {c : Code} {H : Heap} {locs : List Loc} {Q : State → Prop}
variable {cc : ByteArray} {nL pc : Nat} {ls : Array Slot} {rest : List Value} {D : va_G} {A : Nat → Prop} {cw : Cond} {ad : Nat → Nat} {cy : Nat → ClassId} {ee : EE} {st : StT} {own : String}
theorem gwF2X1_11_0 (F : CallFix p m c cc nL s args (cw :: Gw) RX1) (K : va_K D vwCl (tyL cy) s) (Z : ZG D (wF2 ad cy st) A s H locs) (hd : decode cc pc = .ok (.getfield 11, 3)) (kk : W p l e R s m args below meth c H locs 0 0 Q (F0 m (pc + 3) ls (.ref (ad 1) :: rest))) : W p l e R s m args below meth c H locs 0 0 Q (F0 m pc ls (.ref (ad 0) :: rest)) :=
  va_get (D := D) (ci := 1) (C := RX1) (T := TX1) (N := 9) F.1 F.2.1 F.2.2.2.2 (fun w h => List.mem_cons_of_mem _ (inG_X1 w h)) F.2.2.2.1 K Z.1 0 rfl rfl 4 (by decide) (F.2.2.2.2 _ (List.mem_cons_of_mem _ wd20)) (fun _ h => h) rfl hd kk
theorem alwF2_1 {i : Int32} (F : CallFix p m c cc nL s args (cw :: Gw) own) (K : va_K D vwCl (tyL cy) s) (Z : ZG D (wF2 ad cy st) A s H locs) (hi : inB i 1024 = true) (hd : decode cc pc = .ok (.iaload, 1)) (kk : W p l e R s m args below meth c H locs 0 0 Q (F0 m (pc + 1) ls (.int (st.2.1 0 i.toNatClampNeg) :: rest))) : W p l e R s m args below meth c H locs 0 0 Q (F0 m pc ls (.int i :: .ref (ad 1) :: rest)) :=
  va_iald F.1 F.2.1 K Z.1 1 1 rfl rfl (inB_vp hi) hd kk
theorem gwF2X1_45_0 (F : CallFix p m c cc nL s args (cw :: Gw) RX1) (K : va_K D vwCl (tyL cy) s) (Z : ZG D (wF2 ad cy st) A s H locs) (hd : decode cc pc = .ok (.getfield 45, 3)) (kk : W p l e R s m args below meth c H locs 0 0 Q (F0 m (pc + 3) ls (.int (st.1 0) :: rest))) : W p l e R s m args below meth c H locs 0 0 Q (F0 m pc ls (.ref (ad 0) :: rest)) :=
  va_get (D := D) (ci := 1) (C := RX1) (T := TX1) (N := 9) F.1 F.2.1 F.2.2.2.2 (fun w h => List.mem_cons_of_mem _ (inG_X1 w h)) F.2.2.2.1 K Z.1 0 rfl rfl 7 (by decide) (F.2.2.2.2 _ (List.mem_cons_of_mem _ wd9)) (fun _ h => h) rfl hd kk
theorem gwF2X1_25_0 (F : CallFix p m c cc nL s args (cw :: Gw) RX1) (K : va_K D vwCl (tyL cy) s) (Z : ZG D (wF2 ad cy st) A s H locs) (hd : decode cc pc = .ok (.getfield 25, 3)) (kk : W p l e R s m args below meth c H locs 0 0 Q (F0 m (pc + 3) ls (.int 2000 :: rest))) : W p l e R s m args below meth c H locs 0 0 Q (F0 m pc ls (.ref (ad 0) :: rest)) :=
  va_get (D := D) (ci := 1) (C := RX1) (T := TX1) (N := 9) F.1 F.2.1 F.2.2.2.2 (fun w h => List.mem_cons_of_mem _ (inG_X1 w h)) F.2.2.2.1 K Z.1 0 rfl rfl 0 (by decide) (F.2.2.2.2 _ (List.mem_cons_of_mem _ wd11)) (fun _ h => h) rfl hd kk
theorem gwF2X1_29_0 (F : CallFix p m c cc nL s args (cw :: Gw) RX1) (K : va_K D vwCl (tyL cy) s) (Z : ZG D (wF2 ad cy st) A s H locs) (hd : decode cc pc = .ok (.getfield 29, 3)) (kk : W p l e R s m args below meth c H locs 0 0 Q (F0 m (pc + 3) ls (.ref (ad 3) :: rest))) : W p l e R s m args below meth c H locs 0 0 Q (F0 m pc ls (.ref (ad 0) :: rest)) :=
  va_get (D := D) (ci := 1) (C := RX1) (T := TX1) (N := 9) F.1 F.2.1 F.2.2.2.2 (fun w h => List.mem_cons_of_mem _ (inG_X1 w h)) F.2.2.2.1 K Z.1 0 rfl rfl 1 (by decide) (F.2.2.2.2 _ (List.mem_cons_of_mem _ wd12)) (fun _ h => h) rfl hd kk
theorem alwF2_3 {i : Int32} (F : CallFix p m c cc nL s args (cw :: Gw) own) (K : va_K D vwCl (tyL cy) s) (Z : ZG D (wF2 ad cy st) A s H locs) (hi : inB i 2000 = true) (hd : decode cc pc = .ok (.iaload, 1)) (kk : W p l e R s m args below meth c H locs 0 0 Q (F0 m (pc + 1) ls (.int (st.2.1 1 i.toNatClampNeg) :: rest))) : W p l e R s m args below meth c H locs 0 0 Q (F0 m pc ls (.int i :: .ref (ad 3) :: rest)) :=
  va_iald F.1 F.2.1 K Z.1 3 1 rfl rfl (inB_vp hi) hd kk
theorem gwF2X1_32_0 (F : CallFix p m c cc nL s args (cw :: Gw) RX1) (K : va_K D vwCl (tyL cy) s) (Z : ZG D (wF2 ad cy st) A s H locs) (hd : decode cc pc = .ok (.getfield 32, 3)) (kk : W p l e R s m args below meth c H locs 0 0 Q (F0 m (pc + 3) ls (.ref (ad 4) :: rest))) : W p l e R s m args below meth c H locs 0 0 Q (F0 m pc ls (.ref (ad 0) :: rest)) :=
  va_get (D := D) (ci := 1) (C := RX1) (T := TX1) (N := 9) F.1 F.2.1 F.2.2.2.2 (fun w h => List.mem_cons_of_mem _ (inG_X1 w h)) F.2.2.2.1 K Z.1 0 rfl rfl 2 (by decide) (F.2.2.2.2 _ (List.mem_cons_of_mem _ wd18)) (fun _ h => h) rfl hd kk
theorem alwF2_4 {i : Int32} (F : CallFix p m c cc nL s args (cw :: Gw) own) (K : va_K D vwCl (tyL cy) s) (Z : ZG D (wF2 ad cy st) A s H locs) (hi : inB i 2000 = true) (hd : decode cc pc = .ok (.iaload, 1)) (kk : W p l e R s m args below meth c H locs 0 0 Q (F0 m (pc + 1) ls (.int (st.2.1 2 i.toNatClampNeg) :: rest))) : W p l e R s m args below meth c H locs 0 0 Q (F0 m pc ls (.int i :: .ref (ad 4) :: rest)) :=
  va_iald F.1 F.2.1 K Z.1 4 1 rfl rfl (inB_vp hi) hd kk
theorem gwF2X1_35_0 (F : CallFix p m c cc nL s args (cw :: Gw) RX1) (K : va_K D vwCl (tyL cy) s) (Z : ZG D (wF2 ad cy st) A s H locs) (hd : decode cc pc = .ok (.getfield 35, 3)) (kk : W p l e R s m args below meth c H locs 0 0 Q (F0 m (pc + 3) ls (.ref (ad 5) :: rest))) : W p l e R s m args below meth c H locs 0 0 Q (F0 m pc ls (.ref (ad 0) :: rest)) :=
  va_get (D := D) (ci := 1) (C := RX1) (T := TX1) (N := 9) F.1 F.2.1 F.2.2.2.2 (fun w h => List.mem_cons_of_mem _ (inG_X1 w h)) F.2.2.2.1 K Z.1 0 rfl rfl 3 (by decide) (F.2.2.2.2 _ (List.mem_cons_of_mem _ wd19)) (fun _ h => h) rfl hd kk
theorem alwF2_5 {i : Int32} (F : CallFix p m c cc nL s args (cw :: Gw) own) (K : va_K D vwCl (tyL cy) s) (Z : ZG D (wF2 ad cy st) A s H locs) (hi : inB i 2000 = true) (hd : decode cc pc = .ok (.iaload, 1)) (kk : W p l e R s m args below meth c H locs 0 0 Q (F0 m (pc + 1) ls (.int (st.2.1 3 i.toNatClampNeg) :: rest))) : W p l e R s m args below meth c H locs 0 0 Q (F0 m pc ls (.int i :: .ref (ad 5) :: rest)) :=
  va_iald F.1 F.2.1 K Z.1 5 1 rfl rfl (inB_vp hi) hd kk
theorem gwF2X1_38_0 (F : CallFix p m c cc nL s args (cw :: Gw) RX1) (K : va_K D vwCl (tyL cy) s) (Z : ZG D (wF2 ad cy st) A s H locs) (hd : decode cc pc = .ok (.getfield 38, 3)) (kk : W p l e R s m args below meth c H locs 0 0 Q (F0 m (pc + 3) ls (.ref (ad 6) :: rest))) : W p l e R s m args below meth c H locs 0 0 Q (F0 m pc ls (.ref (ad 0) :: rest)) :=
  va_get (D := D) (ci := 1) (C := RX1) (T := TX1) (N := 9) F.1 F.2.1 F.2.2.2.2 (fun w h => List.mem_cons_of_mem _ (inG_X1 w h)) F.2.2.2.1 K Z.1 0 rfl rfl 5 (by decide) (F.2.2.2.2 _ (List.mem_cons_of_mem _ wd21)) (fun _ h => h) rfl hd kk
theorem alwF2_6 {i : Int32} (F : CallFix p m c cc nL s args (cw :: Gw) own) (K : va_K D vwCl (tyL cy) s) (Z : ZG D (wF2 ad cy st) A s H locs) (hi : inB i 2000 = true) (hd : decode cc pc = .ok (.iaload, 1)) (kk : W p l e R s m args below meth c H locs 0 0 Q (F0 m (pc + 1) ls (.int (st.2.1 4 i.toNatClampNeg) :: rest))) : W p l e R s m args below meth c H locs 0 0 Q (F0 m pc ls (.int i :: .ref (ad 6) :: rest)) :=
  va_iald F.1 F.2.1 K Z.1 6 1 rfl rfl (inB_vp hi) hd kk
end
set_option maxRecDepth 100000 in
set_option maxHeartbeats 4000000 in
theorem b_X1_findIn_wF2_77 {p : Program} {l : Launch} {e : Env} {s : State} {m : MethodId} {args : Array Value} {below : List Frame} {meth : Method} {c : Code} {D : va_G} {A : Nat → Prop} {ad : Nat → Nat} {cy : Nat → ClassId} {ee : EE} {n : Nat} {res : (Int32 × StT)} (F : CallFix p m c cX1_findIn 7 s args (Cond.code yX1_findIn cX1_findIn 7 (some .int) :: Gw) yX1_findIn.cls) (hr : meth.sig.returnType = (some .int)) (hk : meth.locks = false) (K : va_K D vwCl (tyL cy) s) (E : EV ee A s s.heap) (hA : ∀ q, s.heap.size ≤ q → A q) {k17 : StT → Int32 → Int32 → Int32 → Int32 → Int32 → Option (Int32 × StT)} (hk17 : ∀ (st : StT) (x2 : Int32) (x3 : Int32) (x4 : Int32) (x5 : Int32) (x6 : Int32), k17 st x2 x3 x4 x5 x6 = some res → ∀ (H : Heap) (locs : List Loc) (ls : Array Slot), ZG D (wF2 ad cy st) A s H locs → lv_has ls 7 [(0, .ref (ad 0)), (2, .int x2), (3, .int x3), (4, .int x4), (5, .int x5), (6, .int x6)] → W p l e { frames := 0, cells := 0, slots := 0, locals := 0 } s m args below meth c H locs 0 0 (MQ below (QC D (some (.int res.1)) (wF2 ad cy res.2) A) args s 0 0 A) (F0 m 17 ls [])) : ∀ (st : StT) (x2 : Int32) (x3 : Int32) (x4 : Int32) (x5 : Int32) (x6 : Int32), f_X1_findIn_wF2_77 n k17 st x2 x3 x4 x5 x6 = some res → ∀ (H : Heap) (locs : List Loc) (ls : Array Slot), ZG D (wF2 ad cy st) A s H locs → lv_has ls 7 [(0, .ref (ad 0)), (2, .int x2), (3, .int x3), (4, .int x4), (5, .int x5), (6, .int x6)] → W p l e { frames := 0, cells := 0, slots := 0, locals := 0 } s m args below meth c H locs 0 0 (MQ below (QC D (some (.int res.1)) (wF2 ad cy res.2) A) args s 0 0 A) (F0 m 77 ls []) := by
  have hx := F.1
  have hb := F.2.1
  intro st x2 x3 x4 x5 x6 hf H locs ls Z hl
  unfold f_X1_findIn_wF2_77 at hf
  refine lv_aload_n hx hb dX1_findIn_77 rfl (lv_at hl 0 rfl) ?_
  refine gwF2X1_38_0 F K Z dX1_findIn_78 ?_
  refine lv_iload hx hb dX1_findIn_81 (lv_at hl 4 rfl) ?_
  obtain ⟨i83, hf⟩ := if_some hf
  refine alwF2_6 F K Z i83 dX1_findIn_83 ?_
  refine lv_iconst (v := 1) hx hb dX1_findIn_84 (by decide) ?_
  refine lv_isub hx hb dX1_findIn_85 ?_
  refine lv_istore (lv' := [(5, .int ((st.2.1 4 (x5).toNatClampNeg) - (1 : Int32))), (0, .ref (ad 0)), (2, .int x2), (3, .int x3), (4, .int x4), (6, .int x6)]) hx hb dX1_findIn_86 hl (by decide) rfl (fun ls hl => ?_)
  refine lv_iinc (v := (x6 + (1 : Int32))) (lv' := [(6, .int (x6 + (1 : Int32))), (5, .int ((st.2.1 4 (x5).toNatClampNeg) - (1 : Int32))), (0, .ref (ad 0)), (2, .int x2), (3, .int x3), (4, .int x4)]) hx hb dX1_findIn_88 hl (k := 5) rfl (congrArg (fun z => x6 + z) (by decide)) (by decide) rfl (fun ls hl => ?_)
  refine lv_goto (tgt := 17) hx hb dX1_findIn_91 (by decide) ?_
  exact hk17 _ _ _ _ _ _ hf _ _ _ Z (lv_sub hl [2, 3, 4, 5, 1, 0] rfl)
set_option maxRecDepth 100000 in
set_option maxHeartbeats 4000000 in
theorem b_X1_findIn_wF2_17 {p : Program} {l : Launch} {e : Env} {s : State} {m : MethodId} {args : Array Value} {below : List Frame} {meth : Method} {c : Code} {D : va_G} {A : Nat → Prop} {ad : Nat → Nat} {cy : Nat → ClassId} {ee : EE} {n : Nat} {res : (Int32 × StT)} (F : CallFix p m c cX1_findIn 7 s args (Cond.code yX1_findIn cX1_findIn 7 (some .int) :: Gw) yX1_findIn.cls) (hr : meth.sig.returnType = (some .int)) (hk : meth.locks = false) (K : va_K D vwCl (tyL cy) s) (E : EV ee A s s.heap) (hA : ∀ q, s.heap.size ≤ q → A q) : ∀ (k : Nat) (st : StT) (x2 : Int32) (x3 : Int32) (x4 : Int32) (x5 : Int32) (x6 : Int32), f_X1_findIn_wF2_17 n k st x2 x3 x4 x5 x6 = some res → ∀ (H : Heap) (locs : List Loc) (ls : Array Slot), ZG D (wF2 ad cy st) A s H locs → lv_has ls 7 [(0, .ref (ad 0)), (2, .int x2), (3, .int x3), (4, .int x4), (5, .int x5), (6, .int x6)] → W p l e { frames := 0, cells := 0, slots := 0, locals := 0 } s m args below meth c H locs 0 0 (MQ below (QC D (some (.int res.1)) (wF2 ad cy res.2) A) args s 0 0 A) (F0 m 17 ls []) := by
  have hx := F.1
  have hb := F.2.1
  intro k
  induction k with
  | zero =>
    intro st x2 x3 x4 x5 x6 hf
    exact absurd hf (by simp [f_X1_findIn_wF2_17])
  | succ k ih =>
    intro st x2 x3 x4 x5 x6 hf H locs ls Z hl
    rw [f_X1_findIn_wF2_17] at hf
    refine lv_iload hx hb dX1_findIn_17 (lv_at hl 5 rfl) ?_
    refine lv_aload_n hx hb dX1_findIn_19 rfl (lv_at hl 0 rfl) ?_
    refine gwF2X1_45_0 F K Z dX1_findIn_20 ?_
    refine lv_icmp_ge (tgt := 94) hx hb dX1_findIn_23 (by decide) (fun c23 => ?_) (fun c23 => ?_)
    · have hf := if_t c23 hf
      refine lv_iconst (v := -1) hx hb dX1_findIn_94 (by decide) ?_
      have hf := Option.some.inj hf
      subst hf
      exact ret_i F hr hk Z dX1_findIn_95
    have hf := if_f c23 hf
    refine lv_iload hx hb dX1_findIn_26 (lv_at hl 4 rfl) ?_
    refine lv_if_lt (tgt := 94) hx hb dX1_findIn_28 (by decide) (fun c28 => ?_) (fun c28 => ?_)
    · have hf := if_t c28 hf
      refine lv_iconst (v := -1) hx hb dX1_findIn_94 (by decide) ?_
      have hf := Option.some.inj hf
      subst hf
      exact ret_i F hr hk Z dX1_findIn_95
    have hf := if_f c28 hf
    refine lv_iload hx hb dX1_findIn_31 (lv_at hl 4 rfl) ?_
    refine lv_aload_n hx hb dX1_findIn_33 rfl (lv_at hl 0 rfl) ?_
    refine gwF2X1_25_0 F K Z dX1_findIn_34 ?_
    refine lv_icmp_ge (tgt := 94) hx hb dX1_findIn_37 (by decide) (fun c37 => ?_) (fun c37 => ?_)
    · have hf := if_t c37 hf
      refine lv_iconst (v := -1) hx hb dX1_findIn_94 (by decide) ?_
      have hf := Option.some.inj hf
      subst hf
      exact ret_i F hr hk Z dX1_findIn_95
    have hf := if_f c37 hf
    refine lv_aload_n hx hb dX1_findIn_40 rfl (lv_at hl 0 rfl) ?_
    refine gwF2X1_29_0 F K Z dX1_findIn_41 ?_
    refine lv_iload hx hb dX1_findIn_44 (lv_at hl 4 rfl) ?_
    obtain ⟨i46, hf⟩ := if_some hf
    refine alwF2_3 F K Z i46 dX1_findIn_46 ?_
    refine lv_iload_n hx hb dX1_findIn_47 rfl (lv_at hl 1 rfl) ?_
    refine lv_icmp_ne (tgt := 77) hx hb dX1_findIn_48 (by decide) (fun c48 => ?_) (fun c48 => ?_)
    · have hf := if_f c48 hf
      exact b_X1_findIn_wF2_77 F hr hk K E hA ih _ _ _ _ _ _ hf _ _ _ Z hl
    have hf := if_t c48 hf
    refine lv_aload_n hx hb dX1_findIn_51 rfl (lv_at hl 0 rfl) ?_
    refine gwF2X1_32_0 F K Z dX1_findIn_52 ?_
    refine lv_iload hx hb dX1_findIn_55 (lv_at hl 4 rfl) ?_
    obtain ⟨i57, hf⟩ := if_some hf
    refine alwF2_4 F K Z i57 dX1_findIn_57 ?_
    refine lv_iload_n hx hb dX1_findIn_58 rfl (lv_at hl 2 rfl) ?_
    refine lv_icmp_ne (tgt := 77) hx hb dX1_findIn_59 (by decide) (fun c59 => ?_) (fun c59 => ?_)
    · have hf := if_f c59 hf
      exact b_X1_findIn_wF2_77 F hr hk K E hA ih _ _ _ _ _ _ hf _ _ _ Z hl
    have hf := if_t c59 hf
    refine lv_aload_n hx hb dX1_findIn_62 rfl (lv_at hl 0 rfl) ?_
    refine gwF2X1_35_0 F K Z dX1_findIn_63 ?_
    refine lv_iload hx hb dX1_findIn_66 (lv_at hl 4 rfl) ?_
    obtain ⟨i68, hf⟩ := if_some hf
    refine alwF2_5 F K Z i68 dX1_findIn_68 ?_
    refine lv_iload hx hb dX1_findIn_69 (lv_at hl 3 rfl) ?_
    refine lv_icmp_ne (tgt := 77) hx hb dX1_findIn_71 (by decide) (fun c71 => ?_) (fun c71 => ?_)
    · have hf := if_f c71 hf
      exact b_X1_findIn_wF2_77 F hr hk K E hA ih _ _ _ _ _ _ hf _ _ _ Z hl
    have hf := if_t c71 hf
    refine lv_iload hx hb dX1_findIn_74 (lv_at hl 4 rfl) ?_
    have hf := Option.some.inj hf
    subst hf
    exact ret_i F hr hk Z dX1_findIn_76
set_option maxRecDepth 100000 in
set_option maxHeartbeats 4000000 in
theorem c_X1_findIn_wF2 {l : Launch} {D : va_G} {ad : Nat → Nat} {cy : Nat → ClassId} {ee : EE} {n : Nat} {st : StT} {x1 : Int32} {x2 : Int32} {x3 : Int32} {x4 : Int32} {res : (Int32 × StT)} (hf : f_X1_findIn_wF2 n st x1 x2 x3 x4 = some res) : CT l yX1_findIn cX1_findIn 7 (some .int) 0 0 D cy ee (wF2 ad cy st) (wF2 ad cy res.2) [.ref (ad 0), .int x1, .int x2, .int x3, .int x4] (some (.int res.1)) := by
  refine CT.of (by decide +kernel) (Nat.le_of_ble_eq_true rfl) ?_
  intro p e s m args below meth c A F hr hk K E hA Z ls hl
  have hl : lv_has ls 7 [(0, .ref (ad 0)), (1, .int x1), (2, .int x2), (3, .int x3), (4, .int x4)] := hl
  have hx := F.1
  have hb := F.2.1
  unfold f_X1_findIn_wF2 at hf
  refine lv_aload_n hx hb dX1_findIn_0 rfl (lv_at hl 0 rfl) ?_
  refine gwF2X1_11_0 F K Z dX1_findIn_1 ?_
  refine lv_iload_n hx hb dX1_findIn_4 rfl (lv_at hl 1 rfl) ?_
  refine lv_sipush (v := 1023) hx hb dX1_findIn_5 (by decide) ?_
  refine lv_iand hx hb dX1_findIn_8 ?_
  obtain ⟨i9, hf⟩ := if_some hf
  refine alwF2_1 F K Z i9 dX1_findIn_9 ?_
  refine lv_iconst (v := 1) hx hb dX1_findIn_10 (by decide) ?_
  refine lv_isub hx hb dX1_findIn_11 ?_
  refine lv_istore (lv' := [(5, .int ((st.2.1 0 ((x1 &&& (1023 : Int32))).toNatClampNeg) - (1 : Int32))), (0, .ref (ad 0)), (1, .int x1), (2, .int x2), (3, .int x3), (4, .int x4)]) hx hb dX1_findIn_12 hl (by decide) rfl (fun ls hl => ?_)
  refine lv_iconst (v := 0) hx hb dX1_findIn_14 (by decide) ?_
  refine lv_istore (lv' := [(6, .int (0 : Int32)), (5, .int ((st.2.1 0 ((x1 &&& (1023 : Int32))).toNatClampNeg) - (1 : Int32))), (0, .ref (ad 0)), (1, .int x1), (2, .int x2), (3, .int x3), (4, .int x4)]) hx hb dX1_findIn_15 hl (by decide) rfl (fun ls hl => ?_)
  exact b_X1_findIn_wF2_17 F hr hk K E hA _ _ _ _ _ _ _ hf _ _ _ Z (lv_sub hl [2, 4, 5, 6, 1, 0] rfl)
def f_X1_addTo_wF2 (n : Nat) (st : StT) (x1 : Int32) (x2 : Int32) (x3 : Int32) (x4 : Int32) : Option (Int32 × StT) := if (st.1 0) < 0 then (some ((-1 : Int32), st)) else (if (st.1 0) < (2000 : Int32) then (if inB (st.1 0) 2000 = true then (if inB (st.1 0) 2000 = true then (if inB (st.1 0) 2000 = true then (if inB (x1 &&& (1023 : Int32)) 1024 = true then (if inB (st.1 0) 2000 = true then (if inB (x1 &&& (1023 : Int32)) 1024 = true then (some ((st.1 0), (uA (uF (uA (uA (uA (uA st 1 (st.1 0) x2) 2 (st.1 0) x3) 3 (st.1 0) x4) 4 (st.1 0) ((uA (uA (uA st 1 (st.1 0) x2) 2 (st.1 0) x3) 3 (st.1 0) x4).2.1 0 ((x1 &&& (1023 : Int32))).toNatClampNeg)) 0 (((uA (uA (uA (uA st 1 (st.1 0) x2) 2 (st.1 0) x3) 3 (st.1 0) x4) 4 (st.1 0) ((uA (uA (uA st 1 (st.1 0) x2) 2 (st.1 0) x3) 3 (st.1 0) x4).2.1 0 ((x1 &&& (1023 : Int32))).toNatClampNeg)).1 0) + (1 : Int32))) 0 (x1 &&& (1023 : Int32)) ((uF (uA (uA (uA (uA st 1 (st.1 0) x2) 2 (st.1 0) x3) 3 (st.1 0) x4) 4 (st.1 0) ((uA (uA (uA st 1 (st.1 0) x2) 2 (st.1 0) x3) 3 (st.1 0) x4).2.1 0 ((x1 &&& (1023 : Int32))).toNatClampNeg)) 0 (((uA (uA (uA (uA st 1 (st.1 0) x2) 2 (st.1 0) x3) 3 (st.1 0) x4) 4 (st.1 0) ((uA (uA (uA st 1 (st.1 0) x2) 2 (st.1 0) x3) 3 (st.1 0) x4).2.1 0 ((x1 &&& (1023 : Int32))).toNatClampNeg)).1 0) + (1 : Int32))).1 0)))) else none) else none) else none) else none) else none) else none) else (some ((-1 : Int32), st)))
section
variable {p : Program} {l : Launch} {e : Env} {R : Room} {s : State} {m : MethodId} {args : Array Value} {below : List Frame} {meth : Method} {c : Code} {H : Heap} {locs : List Loc} {Q : State → Prop}
variable {cc : ByteArray} {nL pc : Nat} {ls : Array Slot} {rest : List Value} {D : va_G} {A : Nat → Prop} {cw : Cond} {ad : Nat → Nat} {cy : Nat → ClassId} {ee : EE} {st : StT} {own : String}
theorem aswF2_3 {i : Int32} {v : Int32} (F : CallFix p m c cc nL s args (cw :: Gw) own) (K : va_K D vwCl (tyL cy) s) (Z : ZG D (wF2 ad cy st) A s H locs) (hi : inB i 2000 = true) (hd : decode cc pc = .ok (.iastore, 1)) (kk : ∀ (H1 : Heap) (locs1 : List Loc), ZG D (wF2 ad cy (uA st 1 i v)) A s H1 locs1 → W p l e R s m args below meth c H1 locs1 0 0 Q (F0 m (pc + 1) ls rest)) : W p l e R s m args below meth c H locs 0 0 Q (F0 m pc ls (.int v :: .int i :: .ref (ad 3) :: rest)) :=
  va_iast F.1 F.2.1 K Z.1 Z.2.1 Z.2.2 3 1 rfl rfl (inB_vp hi) hd (fun H1 locs1 hP hD hS => kk H1 locs1 ⟨hP, hD, hS⟩)
theorem aswF2_4 {i : Int32} {v : Int32} (F : CallFix p m c cc nL s args (cw :: Gw) own) (K : va_K D vwCl (tyL cy) s) (Z : ZG D (wF2 ad cy st) A s H locs) (hi : inB i 2000 = true) (hd : decode cc pc = .ok (.iastore, 1)) (kk : ∀ (H1 : Heap) (locs1 : List Loc), ZG D (wF2 ad cy (uA st 2 i v)) A s H1 locs1 → W p l e R s m args below meth c H1 locs1 0 0 Q (F0 m (pc + 1) ls rest)) : W p l e R s m args below meth c H locs 0 0 Q (F0 m pc ls (.int v :: .int i :: .ref (ad 4) :: rest)) :=
  va_iast F.1 F.2.1 K Z.1 Z.2.1 Z.2.2 4 1 rfl rfl (inB_vp hi) hd (fun H1 locs1 hP hD hS => kk H1 locs1 ⟨hP, hD, hS⟩)
theorem aswF2_5 {i : Int32} {v : Int32} (F : CallFix p m c cc nL s args (cw :: Gw) own) (K : va_K D vwCl (tyL cy) s) (Z : ZG D (wF2 ad cy st) A s H locs) (hi : inB i 2000 = true) (hd : decode cc pc = .ok (.iastore, 1)) (kk : ∀ (H1 : Heap) (locs1 : List Loc), ZG D (wF2 ad cy (uA st 3 i v)) A s H1 locs1 → W p l e R s m args below meth c H1 locs1 0 0 Q (F0 m (pc + 1) ls rest)) : W p l e R s m args below meth c H locs 0 0 Q (F0 m pc ls (.int v :: .int i :: .ref (ad 5) :: rest)) :=
  va_iast F.1 F.2.1 K Z.1 Z.2.1 Z.2.2 5 1 rfl rfl (inB_vp hi) hd (fun H1 locs1 hP hD hS => kk H1 locs1 ⟨hP, hD, hS⟩)
theorem aswF2_6 {i : Int32} {v : Int32} (F : CallFix p m c cc nL s args (cw :: Gw) own) (K : va_K D vwCl (tyL cy) s) (Z : ZG D (wF2 ad cy st) A s H locs) (hi : inB i 2000 = true) (hd : decode cc pc = .ok (.iastore, 1)) (kk : ∀ (H1 : Heap) (locs1 : List Loc), ZG D (wF2 ad cy (uA st 4 i v)) A s H1 locs1 → W p l e R s m args below meth c H1 locs1 0 0 Q (F0 m (pc + 1) ls rest)) : W p l e R s m args below meth c H locs 0 0 Q (F0 m pc ls (.int v :: .int i :: .ref (ad 6) :: rest)) :=
  va_iast F.1 F.2.1 K Z.1 Z.2.1 Z.2.2 6 1 rfl rfl (inB_vp hi) hd (fun H1 locs1 hP hD hS => kk H1 locs1 ⟨hP, hD, hS⟩)
theorem pwF2X1_45_0 {v : Int32} (F : CallFix p m c cc nL s args (cw :: Gw) RX1) (K : va_K D vwCl (tyL cy) s) (Z : ZG D (wF2 ad cy st) A s H locs) (hd : decode cc pc = .ok (.putfield 45, 3)) (kk : ∀ (H1 : Heap) (locs1 : List Loc), ZG D (wF2 ad cy (uF st 0 v)) A s H1 locs1 → W p l e R s m args below meth c H1 locs1 0 0 Q (F0 m (pc + 3) ls rest)) : W p l e R s m args below meth c H locs 0 0 Q (F0 m pc ls (.int v :: .ref (ad 0) :: rest)) :=
  va_put (D := D) (ci := 1) (v := .int v) (ty := .int) (C := RX1) (T := TX1) (N := 9) F.1 F.2.1 F.2.2.2.2 (fun w h => List.mem_cons_of_mem _ (inG_X1 w h)) tyX1 tyX1_ok nmX1 F.2.2.2.1 K Z.1 Z.2.1 Z.2.2 0 rfl rfl 7 (by decide) (F.2.2.2.2 _ (List.mem_cons_of_mem _ wd9)) (fun _ h => h) rfl (by decide +kernel) rfl rfl (Nat.le_of_ble_eq_true rfl) hd (fun H1 locs1 hP hD hS => kk H1 locs1 ⟨hP, hD, hS⟩)
theorem aswF2_1 {i : Int32} {v : Int32} (F : CallFix p m c cc nL s args (cw :: Gw) own) (K : va_K D vwCl (tyL cy) s) (Z : ZG D (wF2 ad cy st) A s H locs) (hi : inB i 1024 = true) (hd : decode cc pc = .ok (.iastore, 1)) (kk : ∀ (H1 : Heap) (locs1 : List Loc), ZG D (wF2 ad cy (uA st 0 i v)) A s H1 locs1 → W p l e R s m args below meth c H1 locs1 0 0 Q (F0 m (pc + 1) ls rest)) : W p l e R s m args below meth c H locs 0 0 Q (F0 m pc ls (.int v :: .int i :: .ref (ad 1) :: rest)) :=
  va_iast F.1 F.2.1 K Z.1 Z.2.1 Z.2.2 1 1 rfl rfl (inB_vp hi) hd (fun H1 locs1 hP hD hS => kk H1 locs1 ⟨hP, hD, hS⟩)
end
set_option maxRecDepth 100000 in
set_option maxHeartbeats 4000000 in
theorem c_X1_addTo_wF2 {l : Launch} {D : va_G} {ad : Nat → Nat} {cy : Nat → ClassId} {ee : EE} {n : Nat} {st : StT} {x1 : Int32} {x2 : Int32} {x3 : Int32} {x4 : Int32} {res : (Int32 × StT)} (hf : f_X1_addTo_wF2 n st x1 x2 x3 x4 = some res) : CT l yX1_addTo cX1_addTo 7 (some .int) 0 0 D cy ee (wF2 ad cy st) (wF2 ad cy res.2) [.ref (ad 0), .int x1, .int x2, .int x3, .int x4] (some (.int res.1)) := by
  refine CT.of (by decide +kernel) (Nat.le_of_ble_eq_true rfl) ?_
  intro p e s m args below meth c A F hr hk K E hA Z ls hl
  have hl : lv_has ls 7 [(0, .ref (ad 0)), (1, .int x1), (2, .int x2), (3, .int x3), (4, .int x4)] := hl
  have hx := F.1
  have hb := F.2.1
  unfold f_X1_addTo_wF2 at hf
  refine lv_aload_n hx hb dX1_addTo_0 rfl (lv_at hl 0 rfl) ?_
  refine gwF2X1_45_0 F K Z dX1_addTo_1 ?_
  refine lv_if_lt (tgt := 18) hx hb dX1_addTo_4 (by decide) (fun c4 => ?_) (fun c4 => ?_)
  · have hf := if_t c4 hf
    refine lv_iconst (v := -1) hx hb dX1_addTo_18 (by decide) ?_
    have hf := Option.some.inj hf
    subst hf
    exact ret_i F hr hk Z dX1_addTo_19
  have hf := if_f c4 hf
  refine lv_aload_n hx hb dX1_addTo_7 rfl (lv_at hl 0 rfl) ?_
  refine gwF2X1_45_0 F K Z dX1_addTo_8 ?_
  refine lv_aload_n hx hb dX1_addTo_11 rfl (lv_at hl 0 rfl) ?_
  refine gwF2X1_25_0 F K Z dX1_addTo_12 ?_
  refine lv_icmp_lt (tgt := 20) hx hb dX1_addTo_15 (by decide) (fun c15 => ?_) (fun c15 => ?_)
  · have hf := if_t c15 hf
    refine lv_iload_n hx hb dX1_addTo_20 rfl (lv_at hl 1 rfl) ?_
    refine lv_sipush (v := 1023) hx hb dX1_addTo_21 (by decide) ?_
    refine lv_iand hx hb dX1_addTo_24 ?_
    refine lv_istore (lv' := [(5, .int (x1 &&& (1023 : Int32))), (0, .ref (ad 0)), (1, .int x1), (2, .int x2), (3, .int x3), (4, .int x4)]) hx hb dX1_addTo_25 hl (by decide) rfl (fun ls hl => ?_)
    refine lv_aload_n hx hb dX1_addTo_27 rfl (lv_at hl 1 rfl) ?_
    refine gwF2X1_45_0 F K Z dX1_addTo_28 ?_
    refine lv_istore (lv' := [(6, .int (st.1 0)), (5, .int (x1 &&& (1023 : Int32))), (0, .ref (ad 0)), (1, .int x1), (2, .int x2), (3, .int x3), (4, .int x4)]) hx hb dX1_addTo_31 hl (by decide) rfl (fun ls hl => ?_)
    refine lv_aload_n hx hb dX1_addTo_33 rfl (lv_at hl 2 rfl) ?_
    refine gwF2X1_29_0 F K Z dX1_addTo_34 ?_
    refine lv_iload hx hb dX1_addTo_37 (lv_at hl 0 rfl) ?_
    refine lv_iload_n hx hb dX1_addTo_39 rfl (lv_at hl 4 rfl) ?_
    obtain ⟨i40, hf⟩ := if_some hf
    refine aswF2_3 F K Z i40 dX1_addTo_40 (fun H locs Z => ?_)
    refine lv_aload_n hx hb dX1_addTo_41 rfl (lv_at hl 2 rfl) ?_
    refine gwF2X1_32_0 F K Z dX1_addTo_42 ?_
    refine lv_iload hx hb dX1_addTo_45 (lv_at hl 0 rfl) ?_
    refine lv_iload_n hx hb dX1_addTo_47 rfl (lv_at hl 5 rfl) ?_
    obtain ⟨i48, hf⟩ := if_some hf
    refine aswF2_4 F K Z i48 dX1_addTo_48 (fun H locs Z => ?_)
    refine lv_aload_n hx hb dX1_addTo_49 rfl (lv_at hl 2 rfl) ?_
    refine gwF2X1_35_0 F K Z dX1_addTo_50 ?_
    refine lv_iload hx hb dX1_addTo_53 (lv_at hl 0 rfl) ?_
    refine lv_iload hx hb dX1_addTo_55 (lv_at hl 6 rfl) ?_
    obtain ⟨i57, hf⟩ := if_some hf
    refine aswF2_5 F K Z i57 dX1_addTo_57 (fun H locs Z => ?_)
    refine lv_aload_n hx hb dX1_addTo_58 rfl (lv_at hl 2 rfl) ?_
    refine gwF2X1_38_0 F K Z dX1_addTo_59 ?_
    refine lv_iload hx hb dX1_addTo_62 (lv_at hl 0 rfl) ?_
    refine lv_aload_n hx hb dX1_addTo_64 rfl (lv_at hl 2 rfl) ?_
    refine gwF2X1_11_0 F K Z dX1_addTo_65 ?_
    refine lv_iload hx hb dX1_addTo_68 (lv_at hl 1 rfl) ?_
    obtain ⟨i70, hf⟩ := if_some hf
    refine alwF2_1 F K Z i70 dX1_addTo_70 ?_
    obtain ⟨i71, hf⟩ := if_some hf
    refine aswF2_6 F K Z i71 dX1_addTo_71 (fun H locs Z => ?_)
    refine lv_aload_n hx hb dX1_addTo_72 rfl (lv_at hl 2 rfl) ?_
    refine lv_dup hx hb dX1_addTo_73 rfl ?_
    refine gwF2X1_45_0 F K Z dX1_addTo_74 ?_
    refine lv_iconst (v := 1) hx hb dX1_addTo_77 (by decide) ?_
    refine lv_iadd hx hb dX1_addTo_78 ?_
    refine pwF2X1_45_0 F K Z dX1_addTo_79 (fun H locs Z => ?_)
    refine lv_aload_n hx hb dX1_addTo_82 rfl (lv_at hl 2 rfl) ?_
    refine gwF2X1_11_0 F K Z dX1_addTo_83 ?_
    refine lv_iload hx hb dX1_addTo_86 (lv_at hl 1 rfl) ?_
    refine lv_aload_n hx hb dX1_addTo_88 rfl (lv_at hl 2 rfl) ?_
    refine gwF2X1_45_0 F K Z dX1_addTo_89 ?_
    obtain ⟨i92, hf⟩ := if_some hf
    refine aswF2_1 F K Z i92 dX1_addTo_92 (fun H locs Z => ?_)
    refine lv_iload hx hb dX1_addTo_93 (lv_at hl 0 rfl) ?_
    have hf := Option.some.inj hf
    subst hf
    exact ret_i F hr hk Z dX1_addTo_95
  have hf := if_f c15 hf
  refine lv_iconst (v := -1) hx hb dX1_addTo_18 (by decide) ?_
  have hf := Option.some.inj hf
  subst hf
  exact ret_i F hr hk Z dX1_addTo_19
def f_X1_joined_wF2 (n : Nat) (st : StT) (x1 : Int32) (x2 : Int32) (x3 : Int32) : Option (Int32 × StT) := (f_X1_chainOf_wF2 n st x1 x2 x3).bind fun q3 => ((f_X1_findIn_wF2 n q3.2 q3.1 x1 x2 x3).bind fun q14 => (if q14.1 < 0 then ((f_X1_addTo_wF2 n q14.2 q3.1 x1 x2 x3).bind fun q35 => (some (q35.1, q35.2))) else (some (q14.1, q14.2))))
section
variable {p : Program} {l : Launch} {e : Env} {R : Room} {s : State} {m : MethodId} {args : Array Value} {below : List Frame} {meth : Method} {c : Code} {H : Heap} {locs : List Loc} {Q : State → Prop}
variable {cc : ByteArray} {nL pc : Nat} {ls : Array Slot} {rest : List Value} {D : va_G} {A : Nat → Prop} {cw : Cond} {ad : Nat → Nat} {cy : Nat → ClassId} {ee : EE} {st : StT} {own : String}
theorem krX1_62_X1_addTo_wF2 {n : Nat} {a0 : Int32} {a1 : Int32} {a2 : Int32} {a3 : Int32} {q : (Int32 × StT)} (F : CallFix p m c cc nL s args (cw :: Gw) RX1) (K : va_K D vwCl (tyL cy) s) (E : EV ee A s s.heap) (hA : ∀ q, s.heap.size ≤ q → A q) (Z : ZG D (wF2 ad cy st) A s H locs) (hf : f_X1_addTo_wF2 n st a0 a1 a2 a3 = some q) (hR : 1 ≤ R.frames ∧ 26 ≤ R.locals) (hl : ls.size = nL) (hst : (rest.map fun v => v.category).sum ≤ 8) (hd : decode cc pc = .ok (.invokevirtual 62, 3)) (kk : ∀ (H1 : Heap) (locs1 : List Loc), ZG D (wF2 ad cy q.2) A s H1 locs1 → W p l e R s m args below meth c H1 locs1 0 0 Q (F0 m (pc + 3) ls (.int q.1 :: rest))) : W p l e R s m args below meth c H locs 0 0 Q (F0 m pc ls (.int a3 :: .int a2 :: .int a1 :: .int a0 :: .ref (ad 0) :: rest)) :=
  call_V (q := (RX1, TX1, 9)) (n := 4) (As := [.int a0, .int a1, .int a2, .int a3]) (rv := some (.int q.1)) 0 1 F K E hA Z (c_X1_addTo_wF2 (l := l) (D := D) (ad := ad) (cy := cy) (ee := ee) hf) ⟨wd30, wd29, wd31, wd32, wd17⟩ (by decide +kernel) rfl rfl hR rfl hl hst hd kk
theorem krX1_58_X1_findIn_wF2 {n : Nat} {a0 : Int32} {a1 : Int32} {a2 : Int32} {a3 : Int32} {q : (Int32 × StT)} (F : CallFix p m c cc nL s args (cw :: Gw) RX1) (K : va_K D vwCl (tyL cy) s) (E : EV ee A s s.heap) (hA : ∀ q, s.heap.size ≤ q → A q) (Z : ZG D (wF2 ad cy st) A s H locs) (hf : f_X1_findIn_wF2 n st a0 a1 a2 a3 = some q) (hR : 1 ≤ R.frames ∧ 26 ≤ R.locals) (hl : ls.size = nL) (hst : (rest.map fun v => v.category).sum ≤ 8) (hd : decode cc pc = .ok (.invokevirtual 58, 3)) (kk : ∀ (H1 : Heap) (locs1 : List Loc), ZG D (wF2 ad cy q.2) A s H1 locs1 → W p l e R s m args below meth c H1 locs1 0 0 Q (F0 m (pc + 3) ls (.int q.1 :: rest))) : W p l e R s m args below meth c H locs 0 0 Q (F0 m pc ls (.int a3 :: .int a2 :: .int a1 :: .int a0 :: .ref (ad 0) :: rest)) :=
  call_V (q := (RX1, TX1, 9)) (n := 4) (As := [.int a0, .int a1, .int a2, .int a3]) (rv := some (.int q.1)) 0 1 F K E hA Z (c_X1_findIn_wF2 (l := l) (D := D) (ad := ad) (cy := cy) (ee := ee) hf) ⟨wd23, wd22, wd24, wd25, wd17⟩ (by decide +kernel) rfl rfl hR rfl hl hst hd kk
theorem krX1_55_X1_chainOf_wF2 {n : Nat} {a0 : Int32} {a1 : Int32} {a2 : Int32} {q : (Int32 × StT)} (F : CallFix p m c cc nL s args (cw :: Gw) RX1) (K : va_K D vwCl (tyL cy) s) (E : EV ee A s s.heap) (hA : ∀ q, s.heap.size ≤ q → A q) (Z : ZG D (wF2 ad cy st) A s H locs) (hf : f_X1_chainOf_wF2 n st a0 a1 a2 = some q) (hR : 1 ≤ R.frames ∧ 22 ≤ R.locals) (hl : ls.size = nL) (hst : (rest.map fun v => v.category).sum ≤ 8) (hd : decode cc pc = .ok (.invokestatic 55, 3)) (kk : ∀ (H1 : Heap) (locs1 : List Loc), ZG D (wF2 ad cy q.2) A s H1 locs1 → W p l e R s m args below meth c H1 locs1 0 0 Q (F0 m (pc + 3) ls (.int q.1 :: rest))) : W p l e R s m args below meth c H locs 0 0 Q (F0 m pc ls (.int a2 :: .int a1 :: .int a0 :: rest)) :=
  call_S (n := 3) (As := [.int a0, .int a1, .int a2]) (rv := some (.int q.1)) F K E hA Z (c_X1_chainOf_wF2 (l := l) (D := D) (ad := ad) (cy := cy) (ee := ee) hf) ⟨wd27, wd26, wd28, wd17⟩ (by decide +kernel) hR rfl hl hst hd kk
end
set_option maxRecDepth 100000 in
set_option maxHeartbeats 4000000 in
theorem c_X1_joined_wF2 {l : Launch} {D : va_G} {ad : Nat → Nat} {cy : Nat → ClassId} {ee : EE} {n : Nat} {st : StT} {x1 : Int32} {x2 : Int32} {x3 : Int32} {res : (Int32 × StT)} (hf : f_X1_joined_wF2 n st x1 x2 x3 = some res) : CT l yX1_joined cX1_joined 6 (some .int) 1 26 D cy ee (wF2 ad cy st) (wF2 ad cy res.2) [.ref (ad 0), .int x1, .int x2, .int x3] (some (.int res.1)) := by
  refine CT.of (by decide +kernel) (Nat.le_of_ble_eq_true rfl) ?_
  intro p e s m args below meth c A F hr hk K E hA Z ls hl
  have hl : lv_has ls 6 [(0, .ref (ad 0)), (1, .int x1), (2, .int x2), (3, .int x3)] := hl
  have hx := F.1
  have hb := F.2.1
  unfold f_X1_joined_wF2 at hf
  refine lv_iload_n hx hb dX1_joined_0 rfl (lv_at hl 1 rfl) ?_
  refine lv_iload_n hx hb dX1_joined_1 rfl (lv_at hl 2 rfl) ?_
  refine lv_iload_n hx hb dX1_joined_2 rfl (lv_at hl 3 rfl) ?_
  obtain ⟨q3, h3, hf⟩ := bind_some hf
  refine krX1_55_X1_chainOf_wF2 F K E hA Z h3 ⟨Nat.le_of_ble_eq_true rfl, Nat.le_of_ble_eq_true rfl⟩ hl.1 (Nat.le_of_ble_eq_true rfl) dX1_joined_3 (fun H locs Z => ?_)
  refine lv_istore (lv' := [(4, .int q3.1), (0, .ref (ad 0)), (1, .int x1), (2, .int x2), (3, .int x3)]) hx hb dX1_joined_6 hl (by decide) rfl (fun ls hl => ?_)
  refine lv_aload_n hx hb dX1_joined_8 rfl (lv_at hl 1 rfl) ?_
  refine lv_iload hx hb dX1_joined_9 (lv_at hl 0 rfl) ?_
  refine lv_iload_n hx hb dX1_joined_11 rfl (lv_at hl 2 rfl) ?_
  refine lv_iload_n hx hb dX1_joined_12 rfl (lv_at hl 3 rfl) ?_
  refine lv_iload_n hx hb dX1_joined_13 rfl (lv_at hl 4 rfl) ?_
  obtain ⟨q14, h14, hf⟩ := bind_some hf
  refine krX1_58_X1_findIn_wF2 F K E hA Z h14 ⟨Nat.le_of_ble_eq_true rfl, Nat.le_of_ble_eq_true rfl⟩ hl.1 (Nat.le_of_ble_eq_true rfl) dX1_joined_14 (fun H locs Z => ?_)
  refine lv_istore (lv' := [(5, .int q14.1), (4, .int q3.1), (0, .ref (ad 0)), (1, .int x1), (2, .int x2), (3, .int x3)]) hx hb dX1_joined_17 hl (by decide) rfl (fun ls hl => ?_)
  refine lv_iload hx hb dX1_joined_19 (lv_at hl 0 rfl) ?_
  refine lv_if_lt (tgt := 29) hx hb dX1_joined_21 (by decide) (fun c21 => ?_) (fun c21 => ?_)
  · have hf := if_t c21 hf
    refine lv_aload_n hx hb dX1_joined_29 rfl (lv_at hl 2 rfl) ?_
    refine lv_iload hx hb dX1_joined_30 (lv_at hl 1 rfl) ?_
    refine lv_iload_n hx hb dX1_joined_32 rfl (lv_at hl 3 rfl) ?_
    refine lv_iload_n hx hb dX1_joined_33 rfl (lv_at hl 4 rfl) ?_
    refine lv_iload_n hx hb dX1_joined_34 rfl (lv_at hl 5 rfl) ?_
    obtain ⟨q35, h35, hf⟩ := bind_some hf
    refine krX1_62_X1_addTo_wF2 F K E hA Z h35 ⟨Nat.le_of_ble_eq_true rfl, Nat.le_of_ble_eq_true rfl⟩ hl.1 (Nat.le_of_ble_eq_true rfl) dX1_joined_35 (fun H locs Z => ?_)
    have hf := Option.some.inj hf
    subst hf
    exact ret_i F hr hk Z dX1_joined_38
  have hf := if_f c21 hf
  refine lv_iload hx hb dX1_joined_24 (lv_at hl 0 rfl) ?_
  refine lv_goto (tgt := 38) hx hb dX1_joined_26 (by decide) ?_
  have hf := Option.some.inj hf
  subst hf
  exact ret_i F hr hk Z dX1_joined_38

def wF3 (ad : Nat → Nat) (cy : Nat → ClassId) (st : StT) : va_W := [
  (ad 0, .inr (1, [.int 3000, .ref (ad 3), .ref (ad 4), .ref (ad 5), .ref (ad 1), .ref (ad 6), .ref (ad 2), .int (st.1 0), .int (st.1 1)])),
  (ad 1, .inl (cy 1, 1024, .inl (st.2.1 0))),
  (ad 2, .inl (cy 2, 24, .inr (.inl (st.2.2.2 0)))),
  (ad 3, .inl (cy 1, 3000, .inl (st.2.1 1))),
  (ad 4, .inl (cy 1, 3000, .inl (st.2.1 2))),
  (ad 5, .inl (cy 1, 3000, .inl (st.2.1 3))),
  (ad 6, .inl (cy 1, 3000, .inl (st.2.1 4)))]

def f_X1_chainOf_wF3 (n : Nat) (st : StT) (x0 : Int32) (x1 : Int32) (x2 : Int32) : Option (Int32 × StT) := some (((((x0 * (331 : Int32)) + (x1 * (613 : Int32))) + (x2 * (37 : Int32))) &&& (1023 : Int32)), st)
set_option maxRecDepth 100000 in
set_option maxHeartbeats 4000000 in
theorem c_X1_chainOf_wF3 {l : Launch} {D : va_G} {ad : Nat → Nat} {cy : Nat → ClassId} {ee : EE} {n : Nat} {st : StT} {x0 : Int32} {x1 : Int32} {x2 : Int32} {res : (Int32 × StT)} (hf : f_X1_chainOf_wF3 n st x0 x1 x2 = some res) : CT l yX1_chainOf cX1_chainOf 3 (some .int) 0 0 D cy ee (wF3 ad cy st) (wF3 ad cy res.2) [.int x0, .int x1, .int x2] (some (.int res.1)) := by
  refine CT.of (by decide +kernel) (Nat.le_of_ble_eq_true rfl) ?_
  intro p e s m args below meth c A F hr hk K E hA Z ls hl
  have hl : lv_has ls 3 [(0, .int x0), (1, .int x1), (2, .int x2)] := hl
  have hx := F.1
  have hb := F.2.1
  unfold f_X1_chainOf_wF3 at hf
  refine lv_iload_n hx hb dX1_chainOf_0 rfl (lv_at hl 0 rfl) ?_
  refine lv_sipush (v := 331) hx hb dX1_chainOf_1 (by decide) ?_
  refine lv_imul hx hb dX1_chainOf_4 ?_
  refine lv_iload_n hx hb dX1_chainOf_5 rfl (lv_at hl 1 rfl) ?_
  refine lv_sipush (v := 613) hx hb dX1_chainOf_6 (by decide) ?_
  refine lv_imul hx hb dX1_chainOf_9 ?_
  refine lv_iadd hx hb dX1_chainOf_10 ?_
  refine lv_iload_n hx hb dX1_chainOf_11 rfl (lv_at hl 2 rfl) ?_
  refine lv_bipush (v := 37) hx hb dX1_chainOf_12 (by decide) ?_
  refine lv_imul hx hb dX1_chainOf_14 ?_
  refine lv_iadd hx hb dX1_chainOf_15 ?_
  refine lv_sipush (v := 1023) hx hb dX1_chainOf_16 (by decide) ?_
  refine lv_iand hx hb dX1_chainOf_19 ?_
  have hf := Option.some.inj hf
  subst hf
  exact ret_i F hr hk Z dX1_chainOf_20
def f_X1_findIn_wF3_77 (n : Nat) (k17 : StT → Int32 → Int32 → Int32 → Int32 → Int32 → Option (Int32 × StT)) (st : StT) (x2 : Int32) (x3 : Int32) (x4 : Int32) (x5 : Int32) (x6 : Int32) : Option (Int32 × StT) := if inB x5 3000 = true then (k17 st x2 x3 x4 ((st.2.1 4 (x5).toNatClampNeg) - (1 : Int32)) (x6 + (1 : Int32))) else none
def f_X1_findIn_wF3_17 (n : Nat) : Nat → StT → Int32 → Int32 → Int32 → Int32 → Int32 → Option (Int32 × StT)
  | 0, _, _, _, _, _, _ => none
  | k + 1, st, x2, x3, x4, x5, x6 => if (st.1 0) ≤ x6 then (some ((-1 : Int32), st)) else (if x5 < 0 then (some ((-1 : Int32), st)) else (if (3000 : Int32) ≤ x5 then (some ((-1 : Int32), st)) else (if inB x5 3000 = true then (if (st.2.1 1 (x5).toNatClampNeg) = x2 then (if inB x5 3000 = true then (if (st.2.1 2 (x5).toNatClampNeg) = x3 then (if inB x5 3000 = true then (if (st.2.1 3 (x5).toNatClampNeg) = x4 then (some (x5, st)) else (f_X1_findIn_wF3_77 n (f_X1_findIn_wF3_17 n k) st x2 x3 x4 x5 x6)) else none) else (f_X1_findIn_wF3_77 n (f_X1_findIn_wF3_17 n k) st x2 x3 x4 x5 x6)) else none) else (f_X1_findIn_wF3_77 n (f_X1_findIn_wF3_17 n k) st x2 x3 x4 x5 x6)) else none)))
def f_X1_findIn_wF3 (n : Nat) (st : StT) (x1 : Int32) (x2 : Int32) (x3 : Int32) (x4 : Int32) : Option (Int32 × StT) := if inB (x1 &&& (1023 : Int32)) 1024 = true then (f_X1_findIn_wF3_17 n n st x2 x3 x4 ((st.2.1 0 ((x1 &&& (1023 : Int32))).toNatClampNeg) - (1 : Int32)) (0 : Int32)) else none
section
variable {p : Program} {l : Launch} {e : Env} {R : Room} {s : State} {m : MethodId} {args : Array Value} {below : List Frame} {meth : Method} {c : Code} {H : Heap} {locs : List Loc} {Q : State → Prop}
variable {cc : ByteArray} {nL pc : Nat} {ls : Array Slot} {rest : List Value} {D : va_G} {A : Nat → Prop} {cw : Cond} {ad : Nat → Nat} {cy : Nat → ClassId} {ee : EE} {st : StT} {own : String}
theorem gwF3X1_11_0 (F : CallFix p m c cc nL s args (cw :: Gw) RX1) (K : va_K D vwCl (tyL cy) s) (Z : ZG D (wF3 ad cy st) A s H locs) (hd : decode cc pc = .ok (.getfield 11, 3)) (kk : W p l e R s m args below meth c H locs 0 0 Q (F0 m (pc + 3) ls (.ref (ad 1) :: rest))) : W p l e R s m args below meth c H locs 0 0 Q (F0 m pc ls (.ref (ad 0) :: rest)) :=
  va_get (D := D) (ci := 1) (C := RX1) (T := TX1) (N := 9) F.1 F.2.1 F.2.2.2.2 (fun w h => List.mem_cons_of_mem _ (inG_X1 w h)) F.2.2.2.1 K Z.1 0 rfl rfl 4 (by decide) (F.2.2.2.2 _ (List.mem_cons_of_mem _ wd20)) (fun _ h => h) rfl hd kk
theorem alwF3_1 {i : Int32} (F : CallFix p m c cc nL s args (cw :: Gw) own) (K : va_K D vwCl (tyL cy) s) (Z : ZG D (wF3 ad cy st) A s H locs) (hi : inB i 1024 = true) (hd : decode cc pc = .ok (.iaload, 1)) (kk : W p l e R s m args below meth c H locs 0 0 Q (F0 m (pc + 1) ls (.int (st.2.1 0 i.toNatClampNeg) :: rest))) : W p l e R s m args below meth c H locs 0 0 Q (F0 m pc ls (.int i :: .ref (ad 1) :: rest)) :=
  va_iald F.1 F.2.1 K Z.1 1 1 rfl rfl (inB_vp hi) hd kk
theorem gwF3X1_45_0 (F : CallFix p m c cc nL s args (cw :: Gw) RX1) (K : va_K D vwCl (tyL cy) s) (Z : ZG D (wF3 ad cy st) A s H locs) (hd : decode cc pc = .ok (.getfield 45, 3)) (kk : W p l e R s m args below meth c H locs 0 0 Q (F0 m (pc + 3) ls (.int (st.1 0) :: rest))) : W p l e R s m args below meth c H locs 0 0 Q (F0 m pc ls (.ref (ad 0) :: rest)) :=
  va_get (D := D) (ci := 1) (C := RX1) (T := TX1) (N := 9) F.1 F.2.1 F.2.2.2.2 (fun w h => List.mem_cons_of_mem _ (inG_X1 w h)) F.2.2.2.1 K Z.1 0 rfl rfl 7 (by decide) (F.2.2.2.2 _ (List.mem_cons_of_mem _ wd9)) (fun _ h => h) rfl hd kk
theorem gwF3X1_25_0 (F : CallFix p m c cc nL s args (cw :: Gw) RX1) (K : va_K D vwCl (tyL cy) s) (Z : ZG D (wF3 ad cy st) A s H locs) (hd : decode cc pc = .ok (.getfield 25, 3)) (kk : W p l e R s m args below meth c H locs 0 0 Q (F0 m (pc + 3) ls (.int 3000 :: rest))) : W p l e R s m args below meth c H locs 0 0 Q (F0 m pc ls (.ref (ad 0) :: rest)) :=
  va_get (D := D) (ci := 1) (C := RX1) (T := TX1) (N := 9) F.1 F.2.1 F.2.2.2.2 (fun w h => List.mem_cons_of_mem _ (inG_X1 w h)) F.2.2.2.1 K Z.1 0 rfl rfl 0 (by decide) (F.2.2.2.2 _ (List.mem_cons_of_mem _ wd11)) (fun _ h => h) rfl hd kk
theorem gwF3X1_29_0 (F : CallFix p m c cc nL s args (cw :: Gw) RX1) (K : va_K D vwCl (tyL cy) s) (Z : ZG D (wF3 ad cy st) A s H locs) (hd : decode cc pc = .ok (.getfield 29, 3)) (kk : W p l e R s m args below meth c H locs 0 0 Q (F0 m (pc + 3) ls (.ref (ad 3) :: rest))) : W p l e R s m args below meth c H locs 0 0 Q (F0 m pc ls (.ref (ad 0) :: rest)) :=
  va_get (D := D) (ci := 1) (C := RX1) (T := TX1) (N := 9) F.1 F.2.1 F.2.2.2.2 (fun w h => List.mem_cons_of_mem _ (inG_X1 w h)) F.2.2.2.1 K Z.1 0 rfl rfl 1 (by decide) (F.2.2.2.2 _ (List.mem_cons_of_mem _ wd12)) (fun _ h => h) rfl hd kk
theorem alwF3_3 {i : Int32} (F : CallFix p m c cc nL s args (cw :: Gw) own) (K : va_K D vwCl (tyL cy) s) (Z : ZG D (wF3 ad cy st) A s H locs) (hi : inB i 3000 = true) (hd : decode cc pc = .ok (.iaload, 1)) (kk : W p l e R s m args below meth c H locs 0 0 Q (F0 m (pc + 1) ls (.int (st.2.1 1 i.toNatClampNeg) :: rest))) : W p l e R s m args below meth c H locs 0 0 Q (F0 m pc ls (.int i :: .ref (ad 3) :: rest)) :=
  va_iald F.1 F.2.1 K Z.1 3 1 rfl rfl (inB_vp hi) hd kk
theorem gwF3X1_32_0 (F : CallFix p m c cc nL s args (cw :: Gw) RX1) (K : va_K D vwCl (tyL cy) s) (Z : ZG D (wF3 ad cy st) A s H locs) (hd : decode cc pc = .ok (.getfield 32, 3)) (kk : W p l e R s m args below meth c H locs 0 0 Q (F0 m (pc + 3) ls (.ref (ad 4) :: rest))) : W p l e R s m args below meth c H locs 0 0 Q (F0 m pc ls (.ref (ad 0) :: rest)) :=
  va_get (D := D) (ci := 1) (C := RX1) (T := TX1) (N := 9) F.1 F.2.1 F.2.2.2.2 (fun w h => List.mem_cons_of_mem _ (inG_X1 w h)) F.2.2.2.1 K Z.1 0 rfl rfl 2 (by decide) (F.2.2.2.2 _ (List.mem_cons_of_mem _ wd18)) (fun _ h => h) rfl hd kk
theorem alwF3_4 {i : Int32} (F : CallFix p m c cc nL s args (cw :: Gw) own) (K : va_K D vwCl (tyL cy) s) (Z : ZG D (wF3 ad cy st) A s H locs) (hi : inB i 3000 = true) (hd : decode cc pc = .ok (.iaload, 1)) (kk : W p l e R s m args below meth c H locs 0 0 Q (F0 m (pc + 1) ls (.int (st.2.1 2 i.toNatClampNeg) :: rest))) : W p l e R s m args below meth c H locs 0 0 Q (F0 m pc ls (.int i :: .ref (ad 4) :: rest)) :=
  va_iald F.1 F.2.1 K Z.1 4 1 rfl rfl (inB_vp hi) hd kk
theorem gwF3X1_35_0 (F : CallFix p m c cc nL s args (cw :: Gw) RX1) (K : va_K D vwCl (tyL cy) s) (Z : ZG D (wF3 ad cy st) A s H locs) (hd : decode cc pc = .ok (.getfield 35, 3)) (kk : W p l e R s m args below meth c H locs 0 0 Q (F0 m (pc + 3) ls (.ref (ad 5) :: rest))) : W p l e R s m args below meth c H locs 0 0 Q (F0 m pc ls (.ref (ad 0) :: rest)) :=
  va_get (D := D) (ci := 1) (C := RX1) (T := TX1) (N := 9) F.1 F.2.1 F.2.2.2.2 (fun w h => List.mem_cons_of_mem _ (inG_X1 w h)) F.2.2.2.1 K Z.1 0 rfl rfl 3 (by decide) (F.2.2.2.2 _ (List.mem_cons_of_mem _ wd19)) (fun _ h => h) rfl hd kk
theorem alwF3_5 {i : Int32} (F : CallFix p m c cc nL s args (cw :: Gw) own) (K : va_K D vwCl (tyL cy) s) (Z : ZG D (wF3 ad cy st) A s H locs) (hi : inB i 3000 = true) (hd : decode cc pc = .ok (.iaload, 1)) (kk : W p l e R s m args below meth c H locs 0 0 Q (F0 m (pc + 1) ls (.int (st.2.1 3 i.toNatClampNeg) :: rest))) : W p l e R s m args below meth c H locs 0 0 Q (F0 m pc ls (.int i :: .ref (ad 5) :: rest)) :=
  va_iald F.1 F.2.1 K Z.1 5 1 rfl rfl (inB_vp hi) hd kk
theorem gwF3X1_38_0 (F : CallFix p m c cc nL s args (cw :: Gw) RX1) (K : va_K D vwCl (tyL cy) s) (Z : ZG D (wF3 ad cy st) A s H locs) (hd : decode cc pc = .ok (.getfield 38, 3)) (kk : W p l e R s m args below meth c H locs 0 0 Q (F0 m (pc + 3) ls (.ref (ad 6) :: rest))) : W p l e R s m args below meth c H locs 0 0 Q (F0 m pc ls (.ref (ad 0) :: rest)) :=
  va_get (D := D) (ci := 1) (C := RX1) (T := TX1) (N := 9) F.1 F.2.1 F.2.2.2.2 (fun w h => List.mem_cons_of_mem _ (inG_X1 w h)) F.2.2.2.1 K Z.1 0 rfl rfl 5 (by decide) (F.2.2.2.2 _ (List.mem_cons_of_mem _ wd21)) (fun _ h => h) rfl hd kk
theorem alwF3_6 {i : Int32} (F : CallFix p m c cc nL s args (cw :: Gw) own) (K : va_K D vwCl (tyL cy) s) (Z : ZG D (wF3 ad cy st) A s H locs) (hi : inB i 3000 = true) (hd : decode cc pc = .ok (.iaload, 1)) (kk : W p l e R s m args below meth c H locs 0 0 Q (F0 m (pc + 1) ls (.int (st.2.1 4 i.toNatClampNeg) :: rest))) : W p l e R s m args below meth c H locs 0 0 Q (F0 m pc ls (.int i :: .ref (ad 6) :: rest)) :=
  va_iald F.1 F.2.1 K Z.1 6 1 rfl rfl (inB_vp hi) hd kk
end
set_option maxRecDepth 100000 in
set_option maxHeartbeats 4000000 in
theorem b_X1_findIn_wF3_77 {p : Program} {l : Launch} {e : Env} {s : State} {m : MethodId} {args : Array Value} {below : List Frame} {meth : Method} {c : Code} {D : va_G} {A : Nat → Prop} {ad : Nat → Nat} {cy : Nat → ClassId} {ee : EE} {n : Nat} {res : (Int32 × StT)} (F : CallFix p m c cX1_findIn 7 s args (Cond.code yX1_findIn cX1_findIn 7 (some .int) :: Gw) yX1_findIn.cls) (hr : meth.sig.returnType = (some .int)) (hk : meth.locks = false) (K : va_K D vwCl (tyL cy) s) (E : EV ee A s s.heap) (hA : ∀ q, s.heap.size ≤ q → A q) {k17 : StT → Int32 → Int32 → Int32 → Int32 → Int32 → Option (Int32 × StT)} (hk17 : ∀ (st : StT) (x2 : Int32) (x3 : Int32) (x4 : Int32) (x5 : Int32) (x6 : Int32), k17 st x2 x3 x4 x5 x6 = some res → ∀ (H : Heap) (locs : List Loc) (ls : Array Slot), ZG D (wF3 ad cy st) A s H locs → lv_has ls 7 [(0, .ref (ad 0)), (2, .int x2), (3, .int x3), (4, .int x4), (5, .int x5), (6, .int x6)] → W p l e { frames := 0, cells := 0, slots := 0, locals := 0 } s m args below meth c H locs 0 0 (MQ below (QC D (some (.int res.1)) (wF3 ad cy res.2) A) args s 0 0 A) (F0 m 17 ls [])) : ∀ (st : StT) (x2 : Int32) (x3 : Int32) (x4 : Int32) (x5 : Int32) (x6 : Int32), f_X1_findIn_wF3_77 n k17 st x2 x3 x4 x5 x6 = some res → ∀ (H : Heap) (locs : List Loc) (ls : Array Slot), ZG D (wF3 ad cy st) A s H locs → lv_has ls 7 [(0, .ref (ad 0)), (2, .int x2), (3, .int x3), (4, .int x4), (5, .int x5), (6, .int x6)] → W p l e { frames := 0, cells := 0, slots := 0, locals := 0 } s m args below meth c H locs 0 0 (MQ below (QC D (some (.int res.1)) (wF3 ad cy res.2) A) args s 0 0 A) (F0 m 77 ls []) := by
  have hx := F.1
  have hb := F.2.1
  intro st x2 x3 x4 x5 x6 hf H locs ls Z hl
  unfold f_X1_findIn_wF3_77 at hf
  refine lv_aload_n hx hb dX1_findIn_77 rfl (lv_at hl 0 rfl) ?_
  refine gwF3X1_38_0 F K Z dX1_findIn_78 ?_
  refine lv_iload hx hb dX1_findIn_81 (lv_at hl 4 rfl) ?_
  obtain ⟨i83, hf⟩ := if_some hf
  refine alwF3_6 F K Z i83 dX1_findIn_83 ?_
  refine lv_iconst (v := 1) hx hb dX1_findIn_84 (by decide) ?_
  refine lv_isub hx hb dX1_findIn_85 ?_
  refine lv_istore (lv' := [(5, .int ((st.2.1 4 (x5).toNatClampNeg) - (1 : Int32))), (0, .ref (ad 0)), (2, .int x2), (3, .int x3), (4, .int x4), (6, .int x6)]) hx hb dX1_findIn_86 hl (by decide) rfl (fun ls hl => ?_)
  refine lv_iinc (v := (x6 + (1 : Int32))) (lv' := [(6, .int (x6 + (1 : Int32))), (5, .int ((st.2.1 4 (x5).toNatClampNeg) - (1 : Int32))), (0, .ref (ad 0)), (2, .int x2), (3, .int x3), (4, .int x4)]) hx hb dX1_findIn_88 hl (k := 5) rfl (congrArg (fun z => x6 + z) (by decide)) (by decide) rfl (fun ls hl => ?_)
  refine lv_goto (tgt := 17) hx hb dX1_findIn_91 (by decide) ?_
  exact hk17 _ _ _ _ _ _ hf _ _ _ Z (lv_sub hl [2, 3, 4, 5, 1, 0] rfl)
set_option maxRecDepth 100000 in
set_option maxHeartbeats 4000000 in
theorem b_X1_findIn_wF3_17 {p : Program} {l : Launch} {e : Env} {s : State} {m : MethodId} {args : Array Value} {below : List Frame} {meth : Method} {c : Code} {D : va_G} {A : Nat → Prop} {ad : Nat → Nat} {cy : Nat → ClassId} {ee : EE} {n : Nat} {res : (Int32 × StT)} (F : CallFix p m c cX1_findIn 7 s args (Cond.code yX1_findIn cX1_findIn 7 (some .int) :: Gw) yX1_findIn.cls) (hr : meth.sig.returnType = (some .int)) (hk : meth.locks = false) (K : va_K D vwCl (tyL cy) s) (E : EV ee A s s.heap) (hA : ∀ q, s.heap.size ≤ q → A q) : ∀ (k : Nat) (st : StT) (x2 : Int32) (x3 : Int32) (x4 : Int32) (x5 : Int32) (x6 : Int32), f_X1_findIn_wF3_17 n k st x2 x3 x4 x5 x6 = some res → ∀ (H : Heap) (locs : List Loc) (ls : Array Slot), ZG D (wF3 ad cy st) A s H locs → lv_has ls 7 [(0, .ref (ad 0)), (2, .int x2), (3, .int x3), (4, .int x4), (5, .int x5), (6, .int x6)] → W p l e { frames := 0, cells := 0, slots := 0, locals := 0 } s m args below meth c H locs 0 0 (MQ below (QC D (some (.int res.1)) (wF3 ad cy res.2) A) args s 0 0 A) (F0 m 17 ls []) := by
  have hx := F.1
  have hb := F.2.1
  intro k
  induction k with
  | zero =>
    intro st x2 x3 x4 x5 x6 hf
    exact absurd hf (by simp [f_X1_findIn_wF3_17])
  | succ k ih =>
    intro st x2 x3 x4 x5 x6 hf H locs ls Z hl
    rw [f_X1_findIn_wF3_17] at hf
    refine lv_iload hx hb dX1_findIn_17 (lv_at hl 5 rfl) ?_
    refine lv_aload_n hx hb dX1_findIn_19 rfl (lv_at hl 0 rfl) ?_
    refine gwF3X1_45_0 F K Z dX1_findIn_20 ?_
    refine lv_icmp_ge (tgt := 94) hx hb dX1_findIn_23 (by decide) (fun c23 => ?_) (fun c23 => ?_)
    · have hf := if_t c23 hf
      refine lv_iconst (v := -1) hx hb dX1_findIn_94 (by decide) ?_
      have hf := Option.some.inj hf
      subst hf
      exact ret_i F hr hk Z dX1_findIn_95
    have hf := if_f c23 hf
    refine lv_iload hx hb dX1_findIn_26 (lv_at hl 4 rfl) ?_
    refine lv_if_lt (tgt := 94) hx hb dX1_findIn_28 (by decide) (fun c28 => ?_) (fun c28 => ?_)
    · have hf := if_t c28 hf
      refine lv_iconst (v := -1) hx hb dX1_findIn_94 (by decide) ?_
      have hf := Option.some.inj hf
      subst hf
      exact ret_i F hr hk Z dX1_findIn_95
    have hf := if_f c28 hf
    refine lv_iload hx hb dX1_findIn_31 (lv_at hl 4 rfl) ?_
    refine lv_aload_n hx hb dX1_findIn_33 rfl (lv_at hl 0 rfl) ?_
    refine gwF3X1_25_0 F K Z dX1_findIn_34 ?_
    refine lv_icmp_ge (tgt := 94) hx hb dX1_findIn_37 (by decide) (fun c37 => ?_) (fun c37 => ?_)
    · have hf := if_t c37 hf
      refine lv_iconst (v := -1) hx hb dX1_findIn_94 (by decide) ?_
      have hf := Option.some.inj hf
      subst hf
      exact ret_i F hr hk Z dX1_findIn_95
    have hf := if_f c37 hf
    refine lv_aload_n hx hb dX1_findIn_40 rfl (lv_at hl 0 rfl) ?_
    refine gwF3X1_29_0 F K Z dX1_findIn_41 ?_
    refine lv_iload hx hb dX1_findIn_44 (lv_at hl 4 rfl) ?_
    obtain ⟨i46, hf⟩ := if_some hf
    refine alwF3_3 F K Z i46 dX1_findIn_46 ?_
    refine lv_iload_n hx hb dX1_findIn_47 rfl (lv_at hl 1 rfl) ?_
    refine lv_icmp_ne (tgt := 77) hx hb dX1_findIn_48 (by decide) (fun c48 => ?_) (fun c48 => ?_)
    · have hf := if_f c48 hf
      exact b_X1_findIn_wF3_77 F hr hk K E hA ih _ _ _ _ _ _ hf _ _ _ Z hl
    have hf := if_t c48 hf
    refine lv_aload_n hx hb dX1_findIn_51 rfl (lv_at hl 0 rfl) ?_
    refine gwF3X1_32_0 F K Z dX1_findIn_52 ?_
    refine lv_iload hx hb dX1_findIn_55 (lv_at hl 4 rfl) ?_
    obtain ⟨i57, hf⟩ := if_some hf
    refine alwF3_4 F K Z i57 dX1_findIn_57 ?_
    refine lv_iload_n hx hb dX1_findIn_58 rfl (lv_at hl 2 rfl) ?_
    refine lv_icmp_ne (tgt := 77) hx hb dX1_findIn_59 (by decide) (fun c59 => ?_) (fun c59 => ?_)
    · have hf := if_f c59 hf
      exact b_X1_findIn_wF3_77 F hr hk K E hA ih _ _ _ _ _ _ hf _ _ _ Z hl
    have hf := if_t c59 hf
    refine lv_aload_n hx hb dX1_findIn_62 rfl (lv_at hl 0 rfl) ?_
    refine gwF3X1_35_0 F K Z dX1_findIn_63 ?_
    refine lv_iload hx hb dX1_findIn_66 (lv_at hl 4 rfl) ?_
    obtain ⟨i68, hf⟩ := if_some hf
    refine alwF3_5 F K Z i68 dX1_findIn_68 ?_
    refine lv_iload hx hb dX1_findIn_69 (lv_at hl 3 rfl) ?_
    refine lv_icmp_ne (tgt := 77) hx hb dX1_findIn_71 (by decide) (fun c71 => ?_) (fun c71 => ?_)
    · have hf := if_f c71 hf
      exact b_X1_findIn_wF3_77 F hr hk K E hA ih _ _ _ _ _ _ hf _ _ _ Z hl
    have hf := if_t c71 hf
    refine lv_iload hx hb dX1_findIn_74 (lv_at hl 4 rfl) ?_
    have hf := Option.some.inj hf
    subst hf
    exact ret_i F hr hk Z dX1_findIn_76
set_option maxRecDepth 100000 in
set_option maxHeartbeats 4000000 in
theorem c_X1_findIn_wF3 {l : Launch} {D : va_G} {ad : Nat → Nat} {cy : Nat → ClassId} {ee : EE} {n : Nat} {st : StT} {x1 : Int32} {x2 : Int32} {x3 : Int32} {x4 : Int32} {res : (Int32 × StT)} (hf : f_X1_findIn_wF3 n st x1 x2 x3 x4 = some res) : CT l yX1_findIn cX1_findIn 7 (some .int) 0 0 D cy ee (wF3 ad cy st) (wF3 ad cy res.2) [.ref (ad 0), .int x1, .int x2, .int x3, .int x4] (some (.int res.1)) := by
  refine CT.of (by decide +kernel) (Nat.le_of_ble_eq_true rfl) ?_
  intro p e s m args below meth c A F hr hk K E hA Z ls hl
  have hl : lv_has ls 7 [(0, .ref (ad 0)), (1, .int x1), (2, .int x2), (3, .int x3), (4, .int x4)] := hl
  have hx := F.1
  have hb := F.2.1
  unfold f_X1_findIn_wF3 at hf
  refine lv_aload_n hx hb dX1_findIn_0 rfl (lv_at hl 0 rfl) ?_
  refine gwF3X1_11_0 F K Z dX1_findIn_1 ?_
  refine lv_iload_n hx hb dX1_findIn_4 rfl (lv_at hl 1 rfl) ?_
  refine lv_sipush (v := 1023) hx hb dX1_findIn_5 (by decide) ?_
  refine lv_iand hx hb dX1_findIn_8 ?_
  obtain ⟨i9, hf⟩ := if_some hf
  refine alwF3_1 F K Z i9 dX1_findIn_9 ?_
  refine lv_iconst (v := 1) hx hb dX1_findIn_10 (by decide) ?_
  refine lv_isub hx hb dX1_findIn_11 ?_
  refine lv_istore (lv' := [(5, .int ((st.2.1 0 ((x1 &&& (1023 : Int32))).toNatClampNeg) - (1 : Int32))), (0, .ref (ad 0)), (1, .int x1), (2, .int x2), (3, .int x3), (4, .int x4)]) hx hb dX1_findIn_12 hl (by decide) rfl (fun ls hl => ?_)
  refine lv_iconst (v := 0) hx hb dX1_findIn_14 (by decide) ?_
  refine lv_istore (lv' := [(6, .int (0 : Int32)), (5, .int ((st.2.1 0 ((x1 &&& (1023 : Int32))).toNatClampNeg) - (1 : Int32))), (0, .ref (ad 0)), (1, .int x1), (2, .int x2), (3, .int x3), (4, .int x4)]) hx hb dX1_findIn_15 hl (by decide) rfl (fun ls hl => ?_)
  exact b_X1_findIn_wF3_17 F hr hk K E hA _ _ _ _ _ _ _ hf _ _ _ Z (lv_sub hl [2, 4, 5, 6, 1, 0] rfl)
def f_X1_addTo_wF3 (n : Nat) (st : StT) (x1 : Int32) (x2 : Int32) (x3 : Int32) (x4 : Int32) : Option (Int32 × StT) := if (st.1 0) < 0 then (some ((-1 : Int32), st)) else (if (st.1 0) < (3000 : Int32) then (if inB (st.1 0) 3000 = true then (if inB (st.1 0) 3000 = true then (if inB (st.1 0) 3000 = true then (if inB (x1 &&& (1023 : Int32)) 1024 = true then (if inB (st.1 0) 3000 = true then (if inB (x1 &&& (1023 : Int32)) 1024 = true then (some ((st.1 0), (uA (uF (uA (uA (uA (uA st 1 (st.1 0) x2) 2 (st.1 0) x3) 3 (st.1 0) x4) 4 (st.1 0) ((uA (uA (uA st 1 (st.1 0) x2) 2 (st.1 0) x3) 3 (st.1 0) x4).2.1 0 ((x1 &&& (1023 : Int32))).toNatClampNeg)) 0 (((uA (uA (uA (uA st 1 (st.1 0) x2) 2 (st.1 0) x3) 3 (st.1 0) x4) 4 (st.1 0) ((uA (uA (uA st 1 (st.1 0) x2) 2 (st.1 0) x3) 3 (st.1 0) x4).2.1 0 ((x1 &&& (1023 : Int32))).toNatClampNeg)).1 0) + (1 : Int32))) 0 (x1 &&& (1023 : Int32)) ((uF (uA (uA (uA (uA st 1 (st.1 0) x2) 2 (st.1 0) x3) 3 (st.1 0) x4) 4 (st.1 0) ((uA (uA (uA st 1 (st.1 0) x2) 2 (st.1 0) x3) 3 (st.1 0) x4).2.1 0 ((x1 &&& (1023 : Int32))).toNatClampNeg)) 0 (((uA (uA (uA (uA st 1 (st.1 0) x2) 2 (st.1 0) x3) 3 (st.1 0) x4) 4 (st.1 0) ((uA (uA (uA st 1 (st.1 0) x2) 2 (st.1 0) x3) 3 (st.1 0) x4).2.1 0 ((x1 &&& (1023 : Int32))).toNatClampNeg)).1 0) + (1 : Int32))).1 0)))) else none) else none) else none) else none) else none) else none) else (some ((-1 : Int32), st)))
section
variable {p : Program} {l : Launch} {e : Env} {R : Room} {s : State} {m : MethodId} {args : Array Value} {below : List Frame} {meth : Method} {c : Code} {H : Heap} {locs : List Loc} {Q : State → Prop}
variable {cc : ByteArray} {nL pc : Nat} {ls : Array Slot} {rest : List Value} {D : va_G} {A : Nat → Prop} {cw : Cond} {ad : Nat → Nat} {cy : Nat → ClassId} {ee : EE} {st : StT} {own : String}
theorem aswF3_3 {i : Int32} {v : Int32} (F : CallFix p m c cc nL s args (cw :: Gw) own) (K : va_K D vwCl (tyL cy) s) (Z : ZG D (wF3 ad cy st) A s H locs) (hi : inB i 3000 = true) (hd : decode cc pc = .ok (.iastore, 1)) (kk : ∀ (H1 : Heap) (locs1 : List Loc), ZG D (wF3 ad cy (uA st 1 i v)) A s H1 locs1 → W p l e R s m args below meth c H1 locs1 0 0 Q (F0 m (pc + 1) ls rest)) : W p l e R s m args below meth c H locs 0 0 Q (F0 m pc ls (.int v :: .int i :: .ref (ad 3) :: rest)) :=
  va_iast F.1 F.2.1 K Z.1 Z.2.1 Z.2.2 3 1 rfl rfl (inB_vp hi) hd (fun H1 locs1 hP hD hS => kk H1 locs1 ⟨hP, hD, hS⟩)
theorem aswF3_4 {i : Int32} {v : Int32} (F : CallFix p m c cc nL s args (cw :: Gw) own) (K : va_K D vwCl (tyL cy) s) (Z : ZG D (wF3 ad cy st) A s H locs) (hi : inB i 3000 = true) (hd : decode cc pc = .ok (.iastore, 1)) (kk : ∀ (H1 : Heap) (locs1 : List Loc), ZG D (wF3 ad cy (uA st 2 i v)) A s H1 locs1 → W p l e R s m args below meth c H1 locs1 0 0 Q (F0 m (pc + 1) ls rest)) : W p l e R s m args below meth c H locs 0 0 Q (F0 m pc ls (.int v :: .int i :: .ref (ad 4) :: rest)) :=
  va_iast F.1 F.2.1 K Z.1 Z.2.1 Z.2.2 4 1 rfl rfl (inB_vp hi) hd (fun H1 locs1 hP hD hS => kk H1 locs1 ⟨hP, hD, hS⟩)
theorem aswF3_5 {i : Int32} {v : Int32} (F : CallFix p m c cc nL s args (cw :: Gw) own) (K : va_K D vwCl (tyL cy) s) (Z : ZG D (wF3 ad cy st) A s H locs) (hi : inB i 3000 = true) (hd : decode cc pc = .ok (.iastore, 1)) (kk : ∀ (H1 : Heap) (locs1 : List Loc), ZG D (wF3 ad cy (uA st 3 i v)) A s H1 locs1 → W p l e R s m args below meth c H1 locs1 0 0 Q (F0 m (pc + 1) ls rest)) : W p l e R s m args below meth c H locs 0 0 Q (F0 m pc ls (.int v :: .int i :: .ref (ad 5) :: rest)) :=
  va_iast F.1 F.2.1 K Z.1 Z.2.1 Z.2.2 5 1 rfl rfl (inB_vp hi) hd (fun H1 locs1 hP hD hS => kk H1 locs1 ⟨hP, hD, hS⟩)
theorem aswF3_6 {i : Int32} {v : Int32} (F : CallFix p m c cc nL s args (cw :: Gw) own) (K : va_K D vwCl (tyL cy) s) (Z : ZG D (wF3 ad cy st) A s H locs) (hi : inB i 3000 = true) (hd : decode cc pc = .ok (.iastore, 1)) (kk : ∀ (H1 : Heap) (locs1 : List Loc), ZG D (wF3 ad cy (uA st 4 i v)) A s H1 locs1 → W p l e R s m args below meth c H1 locs1 0 0 Q (F0 m (pc + 1) ls rest)) : W p l e R s m args below meth c H locs 0 0 Q (F0 m pc ls (.int v :: .int i :: .ref (ad 6) :: rest)) :=
  va_iast F.1 F.2.1 K Z.1 Z.2.1 Z.2.2 6 1 rfl rfl (inB_vp hi) hd (fun H1 locs1 hP hD hS => kk H1 locs1 ⟨hP, hD, hS⟩)
theorem pwF3X1_45_0 {v : Int32} (F : CallFix p m c cc nL s args (cw :: Gw) RX1) (K : va_K D vwCl (tyL cy) s) (Z : ZG D (wF3 ad cy st) A s H locs) (hd : decode cc pc = .ok (.putfield 45, 3)) (kk : ∀ (H1 : Heap) (locs1 : List Loc), ZG D (wF3 ad cy (uF st 0 v)) A s H1 locs1 → W p l e R s m args below meth c H1 locs1 0 0 Q (F0 m (pc + 3) ls rest)) : W p l e R s m args below meth c H locs 0 0 Q (F0 m pc ls (.int v :: .ref (ad 0) :: rest)) :=
  va_put (D := D) (ci := 1) (v := .int v) (ty := .int) (C := RX1) (T := TX1) (N := 9) F.1 F.2.1 F.2.2.2.2 (fun w h => List.mem_cons_of_mem _ (inG_X1 w h)) tyX1 tyX1_ok nmX1 F.2.2.2.1 K Z.1 Z.2.1 Z.2.2 0 rfl rfl 7 (by decide) (F.2.2.2.2 _ (List.mem_cons_of_mem _ wd9)) (fun _ h => h) rfl (by decide +kernel) rfl rfl (Nat.le_of_ble_eq_true rfl) hd (fun H1 locs1 hP hD hS => kk H1 locs1 ⟨hP, hD, hS⟩)
theorem aswF3_1 {i : Int32} {v : Int32} (F : CallFix p m c cc nL s args (cw :: Gw) own) (K : va_K D vwCl (tyL cy) s) (Z : ZG D (wF3 ad cy st) A s H locs) (hi : inB i 1024 = true) (hd : decode cc pc = .ok (.iastore, 1)) (kk : ∀ (H1 : Heap) (locs1 : List Loc), ZG D (wF3 ad cy (uA st 0 i v)) A s H1 locs1 → W p l e R s m args below meth c H1 locs1 0 0 Q (F0 m (pc + 1) ls rest)) : W p l e R s m args below meth c H locs 0 0 Q (F0 m pc ls (.int v :: .int i :: .ref (ad 1) :: rest)) :=
  va_iast F.1 F.2.1 K Z.1 Z.2.1 Z.2.2 1 1 rfl rfl (inB_vp hi) hd (fun H1 locs1 hP hD hS => kk H1 locs1 ⟨hP, hD, hS⟩)
end
set_option maxRecDepth 100000 in
set_option maxHeartbeats 4000000 in
theorem c_X1_addTo_wF3 {l : Launch} {D : va_G} {ad : Nat → Nat} {cy : Nat → ClassId} {ee : EE} {n : Nat} {st : StT} {x1 : Int32} {x2 : Int32} {x3 : Int32} {x4 : Int32} {res : (Int32 × StT)} (hf : f_X1_addTo_wF3 n st x1 x2 x3 x4 = some res) : CT l yX1_addTo cX1_addTo 7 (some .int) 0 0 D cy ee (wF3 ad cy st) (wF3 ad cy res.2) [.ref (ad 0), .int x1, .int x2, .int x3, .int x4] (some (.int res.1)) := by
  refine CT.of (by decide +kernel) (Nat.le_of_ble_eq_true rfl) ?_
  intro p e s m args below meth c A F hr hk K E hA Z ls hl
  have hl : lv_has ls 7 [(0, .ref (ad 0)), (1, .int x1), (2, .int x2), (3, .int x3), (4, .int x4)] := hl
  have hx := F.1
  have hb := F.2.1
  unfold f_X1_addTo_wF3 at hf
  refine lv_aload_n hx hb dX1_addTo_0 rfl (lv_at hl 0 rfl) ?_
  refine gwF3X1_45_0 F K Z dX1_addTo_1 ?_
  refine lv_if_lt (tgt := 18) hx hb dX1_addTo_4 (by decide) (fun c4 => ?_) (fun c4 => ?_)
  · have hf := if_t c4 hf
    refine lv_iconst (v := -1) hx hb dX1_addTo_18 (by decide) ?_
    have hf := Option.some.inj hf
    subst hf
    exact ret_i F hr hk Z dX1_addTo_19
  have hf := if_f c4 hf
  refine lv_aload_n hx hb dX1_addTo_7 rfl (lv_at hl 0 rfl) ?_
  refine gwF3X1_45_0 F K Z dX1_addTo_8 ?_
  refine lv_aload_n hx hb dX1_addTo_11 rfl (lv_at hl 0 rfl) ?_
  refine gwF3X1_25_0 F K Z dX1_addTo_12 ?_
  refine lv_icmp_lt (tgt := 20) hx hb dX1_addTo_15 (by decide) (fun c15 => ?_) (fun c15 => ?_)
  · have hf := if_t c15 hf
    refine lv_iload_n hx hb dX1_addTo_20 rfl (lv_at hl 1 rfl) ?_
    refine lv_sipush (v := 1023) hx hb dX1_addTo_21 (by decide) ?_
    refine lv_iand hx hb dX1_addTo_24 ?_
    refine lv_istore (lv' := [(5, .int (x1 &&& (1023 : Int32))), (0, .ref (ad 0)), (1, .int x1), (2, .int x2), (3, .int x3), (4, .int x4)]) hx hb dX1_addTo_25 hl (by decide) rfl (fun ls hl => ?_)
    refine lv_aload_n hx hb dX1_addTo_27 rfl (lv_at hl 1 rfl) ?_
    refine gwF3X1_45_0 F K Z dX1_addTo_28 ?_
    refine lv_istore (lv' := [(6, .int (st.1 0)), (5, .int (x1 &&& (1023 : Int32))), (0, .ref (ad 0)), (1, .int x1), (2, .int x2), (3, .int x3), (4, .int x4)]) hx hb dX1_addTo_31 hl (by decide) rfl (fun ls hl => ?_)
    refine lv_aload_n hx hb dX1_addTo_33 rfl (lv_at hl 2 rfl) ?_
    refine gwF3X1_29_0 F K Z dX1_addTo_34 ?_
    refine lv_iload hx hb dX1_addTo_37 (lv_at hl 0 rfl) ?_
    refine lv_iload_n hx hb dX1_addTo_39 rfl (lv_at hl 4 rfl) ?_
    obtain ⟨i40, hf⟩ := if_some hf
    refine aswF3_3 F K Z i40 dX1_addTo_40 (fun H locs Z => ?_)
    refine lv_aload_n hx hb dX1_addTo_41 rfl (lv_at hl 2 rfl) ?_
    refine gwF3X1_32_0 F K Z dX1_addTo_42 ?_
    refine lv_iload hx hb dX1_addTo_45 (lv_at hl 0 rfl) ?_
    refine lv_iload_n hx hb dX1_addTo_47 rfl (lv_at hl 5 rfl) ?_
    obtain ⟨i48, hf⟩ := if_some hf
    refine aswF3_4 F K Z i48 dX1_addTo_48 (fun H locs Z => ?_)
    refine lv_aload_n hx hb dX1_addTo_49 rfl (lv_at hl 2 rfl) ?_
    refine gwF3X1_35_0 F K Z dX1_addTo_50 ?_
    refine lv_iload hx hb dX1_addTo_53 (lv_at hl 0 rfl) ?_
    refine lv_iload hx hb dX1_addTo_55 (lv_at hl 6 rfl) ?_
    obtain ⟨i57, hf⟩ := if_some hf
    refine aswF3_5 F K Z i57 dX1_addTo_57 (fun H locs Z => ?_)
    refine lv_aload_n hx hb dX1_addTo_58 rfl (lv_at hl 2 rfl) ?_
    refine gwF3X1_38_0 F K Z dX1_addTo_59 ?_
    refine lv_iload hx hb dX1_addTo_62 (lv_at hl 0 rfl) ?_
    refine lv_aload_n hx hb dX1_addTo_64 rfl (lv_at hl 2 rfl) ?_
    refine gwF3X1_11_0 F K Z dX1_addTo_65 ?_
    refine lv_iload hx hb dX1_addTo_68 (lv_at hl 1 rfl) ?_
    obtain ⟨i70, hf⟩ := if_some hf
    refine alwF3_1 F K Z i70 dX1_addTo_70 ?_
    obtain ⟨i71, hf⟩ := if_some hf
    refine aswF3_6 F K Z i71 dX1_addTo_71 (fun H locs Z => ?_)
    refine lv_aload_n hx hb dX1_addTo_72 rfl (lv_at hl 2 rfl) ?_
    refine lv_dup hx hb dX1_addTo_73 rfl ?_
    refine gwF3X1_45_0 F K Z dX1_addTo_74 ?_
    refine lv_iconst (v := 1) hx hb dX1_addTo_77 (by decide) ?_
    refine lv_iadd hx hb dX1_addTo_78 ?_
    refine pwF3X1_45_0 F K Z dX1_addTo_79 (fun H locs Z => ?_)
    refine lv_aload_n hx hb dX1_addTo_82 rfl (lv_at hl 2 rfl) ?_
    refine gwF3X1_11_0 F K Z dX1_addTo_83 ?_
    refine lv_iload hx hb dX1_addTo_86 (lv_at hl 1 rfl) ?_
    refine lv_aload_n hx hb dX1_addTo_88 rfl (lv_at hl 2 rfl) ?_
    refine gwF3X1_45_0 F K Z dX1_addTo_89 ?_
    obtain ⟨i92, hf⟩ := if_some hf
    refine aswF3_1 F K Z i92 dX1_addTo_92 (fun H locs Z => ?_)
    refine lv_iload hx hb dX1_addTo_93 (lv_at hl 0 rfl) ?_
    have hf := Option.some.inj hf
    subst hf
    exact ret_i F hr hk Z dX1_addTo_95
  have hf := if_f c15 hf
  refine lv_iconst (v := -1) hx hb dX1_addTo_18 (by decide) ?_
  have hf := Option.some.inj hf
  subst hf
  exact ret_i F hr hk Z dX1_addTo_19
def f_X1_joined_wF3 (n : Nat) (st : StT) (x1 : Int32) (x2 : Int32) (x3 : Int32) : Option (Int32 × StT) := (f_X1_chainOf_wF3 n st x1 x2 x3).bind fun q3 => ((f_X1_findIn_wF3 n q3.2 q3.1 x1 x2 x3).bind fun q14 => (if q14.1 < 0 then ((f_X1_addTo_wF3 n q14.2 q3.1 x1 x2 x3).bind fun q35 => (some (q35.1, q35.2))) else (some (q14.1, q14.2))))
section
variable {p : Program} {l : Launch} {e : Env} {R : Room} {s : State} {m : MethodId} {args : Array Value} {below : List Frame} {meth : Method} {c : Code} {H : Heap} {locs : List Loc} {Q : State → Prop}
variable {cc : ByteArray} {nL pc : Nat} {ls : Array Slot} {rest : List Value} {D : va_G} {A : Nat → Prop} {cw : Cond} {ad : Nat → Nat} {cy : Nat → ClassId} {ee : EE} {st : StT} {own : String}
theorem krX1_62_X1_addTo_wF3 {n : Nat} {a0 : Int32} {a1 : Int32} {a2 : Int32} {a3 : Int32} {q : (Int32 × StT)} (F : CallFix p m c cc nL s args (cw :: Gw) RX1) (K : va_K D vwCl (tyL cy) s) (E : EV ee A s s.heap) (hA : ∀ q, s.heap.size ≤ q → A q) (Z : ZG D (wF3 ad cy st) A s H locs) (hf : f_X1_addTo_wF3 n st a0 a1 a2 a3 = some q) (hR : 1 ≤ R.frames ∧ 26 ≤ R.locals) (hl : ls.size = nL) (hst : (rest.map fun v => v.category).sum ≤ 8) (hd : decode cc pc = .ok (.invokevirtual 62, 3)) (kk : ∀ (H1 : Heap) (locs1 : List Loc), ZG D (wF3 ad cy q.2) A s H1 locs1 → W p l e R s m args below meth c H1 locs1 0 0 Q (F0 m (pc + 3) ls (.int q.1 :: rest))) : W p l e R s m args below meth c H locs 0 0 Q (F0 m pc ls (.int a3 :: .int a2 :: .int a1 :: .int a0 :: .ref (ad 0) :: rest)) :=
  call_V (q := (RX1, TX1, 9)) (n := 4) (As := [.int a0, .int a1, .int a2, .int a3]) (rv := some (.int q.1)) 0 1 F K E hA Z (c_X1_addTo_wF3 (l := l) (D := D) (ad := ad) (cy := cy) (ee := ee) hf) ⟨wd30, wd29, wd31, wd32, wd17⟩ (by decide +kernel) rfl rfl hR rfl hl hst hd kk
theorem krX1_58_X1_findIn_wF3 {n : Nat} {a0 : Int32} {a1 : Int32} {a2 : Int32} {a3 : Int32} {q : (Int32 × StT)} (F : CallFix p m c cc nL s args (cw :: Gw) RX1) (K : va_K D vwCl (tyL cy) s) (E : EV ee A s s.heap) (hA : ∀ q, s.heap.size ≤ q → A q) (Z : ZG D (wF3 ad cy st) A s H locs) (hf : f_X1_findIn_wF3 n st a0 a1 a2 a3 = some q) (hR : 1 ≤ R.frames ∧ 26 ≤ R.locals) (hl : ls.size = nL) (hst : (rest.map fun v => v.category).sum ≤ 8) (hd : decode cc pc = .ok (.invokevirtual 58, 3)) (kk : ∀ (H1 : Heap) (locs1 : List Loc), ZG D (wF3 ad cy q.2) A s H1 locs1 → W p l e R s m args below meth c H1 locs1 0 0 Q (F0 m (pc + 3) ls (.int q.1 :: rest))) : W p l e R s m args below meth c H locs 0 0 Q (F0 m pc ls (.int a3 :: .int a2 :: .int a1 :: .int a0 :: .ref (ad 0) :: rest)) :=
  call_V (q := (RX1, TX1, 9)) (n := 4) (As := [.int a0, .int a1, .int a2, .int a3]) (rv := some (.int q.1)) 0 1 F K E hA Z (c_X1_findIn_wF3 (l := l) (D := D) (ad := ad) (cy := cy) (ee := ee) hf) ⟨wd23, wd22, wd24, wd25, wd17⟩ (by decide +kernel) rfl rfl hR rfl hl hst hd kk
theorem krX1_55_X1_chainOf_wF3 {n : Nat} {a0 : Int32} {a1 : Int32} {a2 : Int32} {q : (Int32 × StT)} (F : CallFix p m c cc nL s args (cw :: Gw) RX1) (K : va_K D vwCl (tyL cy) s) (E : EV ee A s s.heap) (hA : ∀ q, s.heap.size ≤ q → A q) (Z : ZG D (wF3 ad cy st) A s H locs) (hf : f_X1_chainOf_wF3 n st a0 a1 a2 = some q) (hR : 1 ≤ R.frames ∧ 22 ≤ R.locals) (hl : ls.size = nL) (hst : (rest.map fun v => v.category).sum ≤ 8) (hd : decode cc pc = .ok (.invokestatic 55, 3)) (kk : ∀ (H1 : Heap) (locs1 : List Loc), ZG D (wF3 ad cy q.2) A s H1 locs1 → W p l e R s m args below meth c H1 locs1 0 0 Q (F0 m (pc + 3) ls (.int q.1 :: rest))) : W p l e R s m args below meth c H locs 0 0 Q (F0 m pc ls (.int a2 :: .int a1 :: .int a0 :: rest)) :=
  call_S (n := 3) (As := [.int a0, .int a1, .int a2]) (rv := some (.int q.1)) F K E hA Z (c_X1_chainOf_wF3 (l := l) (D := D) (ad := ad) (cy := cy) (ee := ee) hf) ⟨wd27, wd26, wd28, wd17⟩ (by decide +kernel) hR rfl hl hst hd kk
end
set_option maxRecDepth 100000 in
set_option maxHeartbeats 4000000 in
theorem c_X1_joined_wF3 {l : Launch} {D : va_G} {ad : Nat → Nat} {cy : Nat → ClassId} {ee : EE} {n : Nat} {st : StT} {x1 : Int32} {x2 : Int32} {x3 : Int32} {res : (Int32 × StT)} (hf : f_X1_joined_wF3 n st x1 x2 x3 = some res) : CT l yX1_joined cX1_joined 6 (some .int) 1 26 D cy ee (wF3 ad cy st) (wF3 ad cy res.2) [.ref (ad 0), .int x1, .int x2, .int x3] (some (.int res.1)) := by
  refine CT.of (by decide +kernel) (Nat.le_of_ble_eq_true rfl) ?_
  intro p e s m args below meth c A F hr hk K E hA Z ls hl
  have hl : lv_has ls 6 [(0, .ref (ad 0)), (1, .int x1), (2, .int x2), (3, .int x3)] := hl
  have hx := F.1
  have hb := F.2.1
  unfold f_X1_joined_wF3 at hf
  refine lv_iload_n hx hb dX1_joined_0 rfl (lv_at hl 1 rfl) ?_
  refine lv_iload_n hx hb dX1_joined_1 rfl (lv_at hl 2 rfl) ?_
  refine lv_iload_n hx hb dX1_joined_2 rfl (lv_at hl 3 rfl) ?_
  obtain ⟨q3, h3, hf⟩ := bind_some hf
  refine krX1_55_X1_chainOf_wF3 F K E hA Z h3 ⟨Nat.le_of_ble_eq_true rfl, Nat.le_of_ble_eq_true rfl⟩ hl.1 (Nat.le_of_ble_eq_true rfl) dX1_joined_3 (fun H locs Z => ?_)
  refine lv_istore (lv' := [(4, .int q3.1), (0, .ref (ad 0)), (1, .int x1), (2, .int x2), (3, .int x3)]) hx hb dX1_joined_6 hl (by decide) rfl (fun ls hl => ?_)
  refine lv_aload_n hx hb dX1_joined_8 rfl (lv_at hl 1 rfl) ?_
  refine lv_iload hx hb dX1_joined_9 (lv_at hl 0 rfl) ?_
  refine lv_iload_n hx hb dX1_joined_11 rfl (lv_at hl 2 rfl) ?_
  refine lv_iload_n hx hb dX1_joined_12 rfl (lv_at hl 3 rfl) ?_
  refine lv_iload_n hx hb dX1_joined_13 rfl (lv_at hl 4 rfl) ?_
  obtain ⟨q14, h14, hf⟩ := bind_some hf
  refine krX1_58_X1_findIn_wF3 F K E hA Z h14 ⟨Nat.le_of_ble_eq_true rfl, Nat.le_of_ble_eq_true rfl⟩ hl.1 (Nat.le_of_ble_eq_true rfl) dX1_joined_14 (fun H locs Z => ?_)
  refine lv_istore (lv' := [(5, .int q14.1), (4, .int q3.1), (0, .ref (ad 0)), (1, .int x1), (2, .int x2), (3, .int x3)]) hx hb dX1_joined_17 hl (by decide) rfl (fun ls hl => ?_)
  refine lv_iload hx hb dX1_joined_19 (lv_at hl 0 rfl) ?_
  refine lv_if_lt (tgt := 29) hx hb dX1_joined_21 (by decide) (fun c21 => ?_) (fun c21 => ?_)
  · have hf := if_t c21 hf
    refine lv_aload_n hx hb dX1_joined_29 rfl (lv_at hl 2 rfl) ?_
    refine lv_iload hx hb dX1_joined_30 (lv_at hl 1 rfl) ?_
    refine lv_iload_n hx hb dX1_joined_32 rfl (lv_at hl 3 rfl) ?_
    refine lv_iload_n hx hb dX1_joined_33 rfl (lv_at hl 4 rfl) ?_
    refine lv_iload_n hx hb dX1_joined_34 rfl (lv_at hl 5 rfl) ?_
    obtain ⟨q35, h35, hf⟩ := bind_some hf
    refine krX1_62_X1_addTo_wF3 F K E hA Z h35 ⟨Nat.le_of_ble_eq_true rfl, Nat.le_of_ble_eq_true rfl⟩ hl.1 (Nat.le_of_ble_eq_true rfl) dX1_joined_35 (fun H locs Z => ?_)
    have hf := Option.some.inj hf
    subst hf
    exact ret_i F hr hk Z dX1_joined_38
  have hf := if_f c21 hf
  refine lv_iload hx hb dX1_joined_24 (lv_at hl 0 rfl) ?_
  refine lv_goto (tgt := 38) hx hb dX1_joined_26 (by decide) ?_
  have hf := Option.some.inj hf
  subst hf
  exact ret_i F hr hk Z dX1_joined_38



set_option maxRecDepth 100000 in
set_option maxHeartbeats 8000000 in
theorem i_K {l : Launch} {D : va_G} {cy : Nat → ClassId} {ee : EE} {h0 : Nat} : CI l yX8_init cX8_init 1 1 24 1 3000 D cy ee [(h0, .inr (8, [.null, .int 0, .int 0, .int 0, .int 0, .int 0, .int 0, .long 0]))] h0 (fun u => [((u 0), .inr (8, [.ref (u 1), .int 0, .int 0, .int 0, .int 0, .int 0, .int 0, .long 0])), ((u 1), .inl (cy 0, 3000, .inl (fun _ => 0)))]) [.ref h0] := by
  refine CI.of (by decide +kernel) (Nat.le_of_ble_eq_true rfl) ?_
  intro p e s m args below meth c A F hr hk hin K E I hA hP hD hS ls hl
  have hl : lv_has ls 1 [(0, .ref h0)] := hl
  have hx := F.1
  have hb := F.2.1
  have hin : meth.name = "<init>" := hin
  refine lv_aload_n hx hb dX8_init_0 rfl (lv_at hl 0 rfl) ?_
  refine W.objInit hx hb F.2.2.2.1 (F.2.2.2.2 _ (List.mem_cons_of_mem _ oi_X8)) (F.2.2.2.2 _ (List.mem_cons_of_mem _ oi_w1)) (F.2.2.2.2 _ (List.mem_cons_of_mem _ oi_w2)) rfl (by rw [F.2.2.1]; exact hl.1) rfl dX8_init_1 (Nat.le_of_ble_eq_true rfl) (Nat.le_of_ble_eq_true rfl) ?_
  refine W.eq (g2 := F0 m 4 ls []) rfl ?_
  refine lv_aload_n hx hb dX8_init_4 rfl (lv_at hl 0 rfl) ?_
  refine lv_sipush (v := 3000) hx hb dX8_init_5 (by decide) ?_
  refine nw_b F K hP hD hS hA (by decide) (N := 3000) (by decide +kernel) (Nat.le_of_ble_eq_true rfl) (Nat.le_of_ble_eq_true rfl) (Nat.le_of_ble_eq_true rfl) dX8_init_8 (fun q1 H hP hD hS => ?_)
  have hP : va_P D vwCl [(h0, .inr (8, [.null, .int 0, .int 0, .int 0, .int 0, .int 0, .int 0, .long 0])), (q1, .inl (cy 0, 3000, .inl (fun _ => 0)))] H := hP
  have hD : va_D A [(h0, .inr (8, [.null, .int 0, .int 0, .int 0, .int 0, .int 0, .int 0, .long 0])), (q1, .inl (cy 0, 3000, .inl (fun _ => 0)))] := hD
  refine va_putF (D := D) (ci := 8) (v := .ref q1) (ty := .array .byte) (C := RX8) (T := TX8) (N := 8) F.1 F.2.1 F.2.2.2.2 (fun w h => List.mem_cons_of_mem _ (inG_X8 w h)) tyX8 tyX8_ok nmX8 F.2.2.2.1 K hP hD hS 0 rfl rfl 0 (by decide) (F.2.2.2.2 _ (List.mem_cons_of_mem _ wd430)) (fun _ h => h) rfl hin rfl (by decide +kernel) rfl rfl (Nat.le_of_ble_eq_true rfl) dX8_init_10 (fun H locs hP hD hS => ?_)
  have hP : va_P D vwCl [(h0, .inr (8, [.ref q1, .int 0, .int 0, .int 0, .int 0, .int 0, .int 0, .long 0])), (q1, .inl (cy 0, 3000, .inl (fun _ => 0)))] H := hP
  have hD : va_D A [(h0, .inr (8, [.ref q1, .int 0, .int 0, .int 0, .int 0, .int 0, .int 0, .long 0])), (q1, .inl (cy 0, 3000, .inl (fun _ => 0)))] := hD
  refine W.widen (k := 1) (n := 3000) (Nat.le_of_ble_eq_true rfl) (Nat.le_of_ble_eq_true rfl) ?_
  exact ret_I (fun k => ([h0, q1] : List Nat).getD k 0) F hr hk rfl hP hD hS dX8_init_13

def stwF2_1 : StT := ((f_X1_joined_wF2 5 stZ 0 0 0).getD (0, stZ)).2
theorem hstwF2_1 : f_X1_joined_wF2 5 stZ 0 0 0 = some (0, stwF2_1) := rfl
def stwF2_2 : StT := ((f_X1_joined_wF2 5 stwF2_1 1 0 0).getD (0, stZ)).2
theorem hstwF2_2 : f_X1_joined_wF2 5 stwF2_1 1 0 0 = some (1, stwF2_2) := rfl

theorem wd1366 : Cond.methodLink RX1 19 yJ9_max_7cf53 ∈ Gw := gT1 (List.mem_of_getElem? (i := 69) rfl) rfl
theorem wd1367 : Cond.methodLink RX1 41 yX1_joined ∈ Gw := gT1 (List.mem_of_getElem? (i := 72) rfl) rfl
set_option maxRecDepth 100000 in
set_option maxHeartbeats 8000000 in
theorem i_F2 {l : Launch} {D : va_G} {cy : Nat → ClassId} {ee : EE} {h0 : Nat} : CI l yX1_init cX1_init 2 2 51 6 9048 D cy ee [(h0, .inr (1, [.int 0, .null, .null, .null, .null, .null, .null, .int 0, .int 0]))] h0 (fun u => [((u 0), .inr (1, [.int 2000, .ref (u 3), .ref (u 4), .ref (u 5), .ref (u 1), .ref (u 6), .ref (u 2), .int (stwF2_2.1 0), .int (stwF2_2.1 1)])), ((u 1), .inl (cy 1, 1024, .inl (stwF2_2.2.1 0))), ((u 2), .inl (cy 2, 24, .inr (.inl (stwF2_2.2.2.2 0)))), ((u 3), .inl (cy 1, 2000, .inl (stwF2_2.2.1 1))), ((u 4), .inl (cy 1, 2000, .inl (stwF2_2.2.1 2))), ((u 5), .inl (cy 1, 2000, .inl (stwF2_2.2.1 3))), ((u 6), .inl (cy 1, 2000, .inl (stwF2_2.2.1 4)))]) [.ref h0, .int 2000] := by
  refine CI.of (by decide +kernel) (Nat.le_of_ble_eq_true rfl) ?_
  intro p e s m args below meth c A F hr hk hin K E I hA hP hD hS ls hl
  have hl : lv_has ls 2 [(0, .ref h0), (1, .int 2000)] := hl
  have hx := F.1
  have hb := F.2.1
  have hin : meth.name = "<init>" := hin
  refine lv_aload_n hx hb dX1_init_0 rfl (lv_at hl 0 rfl) ?_
  refine W.objInit hx hb F.2.2.2.1 (F.2.2.2.2 _ (List.mem_cons_of_mem _ oi_X1)) (F.2.2.2.2 _ (List.mem_cons_of_mem _ oi_w1)) (F.2.2.2.2 _ (List.mem_cons_of_mem _ oi_w2)) rfl (by rw [F.2.2.1]; exact hl.1) rfl dX1_init_1 (Nat.le_of_ble_eq_true rfl) (Nat.le_of_ble_eq_true rfl) ?_
  refine W.eq (g2 := F0 m 4 ls []) rfl ?_
  refine lv_aload_n hx hb dX1_init_4 rfl (lv_at hl 0 rfl) ?_
  refine lv_sipush (v := 1024) hx hb dX1_init_5 (by decide) ?_
  refine nw_i F K hP hD hS hA (by decide) (N := 1024) (by decide +kernel) (Nat.le_of_ble_eq_true rfl) (Nat.le_of_ble_eq_true rfl) (Nat.le_of_ble_eq_true rfl) dX1_init_8 (fun q1 H hP hD hS => ?_)
  have hP : va_P D vwCl [(h0, .inr (1, [.int 0, .null, .null, .null, .null, .null, .null, .int 0, .int 0])), (q1, .inl (cy 1, 1024, .inl (fun _ => 0)))] H := hP
  have hD : va_D A [(h0, .inr (1, [.int 0, .null, .null, .null, .null, .null, .null, .int 0, .int 0])), (q1, .inl (cy 1, 1024, .inl (fun _ => 0)))] := hD
  refine va_putF (D := D) (ci := 1) (v := .ref q1) (ty := .array .int) (C := RX1) (T := TX1) (N := 9) F.1 F.2.1 F.2.2.2.2 (fun w h => List.mem_cons_of_mem _ (inG_X1 w h)) tyX1 tyX1_ok nmX1 F.2.2.2.1 K hP hD hS 0 rfl rfl 4 (by decide) (F.2.2.2.2 _ (List.mem_cons_of_mem _ wd20)) (fun _ h => h) rfl hin rfl (by decide +kernel) rfl rfl (Nat.le_of_ble_eq_true rfl) dX1_init_10 (fun H locs hP hD hS => ?_)
  have hP : va_P D vwCl [(h0, .inr (1, [.int 0, .null, .null, .null, .ref q1, .null, .null, .int 0, .int 0])), (q1, .inl (cy 1, 1024, .inl (fun _ => 0)))] H := hP
  have hD : va_D A [(h0, .inr (1, [.int 0, .null, .null, .null, .ref q1, .null, .null, .int 0, .int 0])), (q1, .inl (cy 1, 1024, .inl (fun _ => 0)))] := hD
  refine lv_aload_n hx hb dX1_init_13 rfl (lv_at hl 0 rfl) ?_
  refine lv_bipush (v := 24) hx hb dX1_init_14 (by decide) ?_
  refine nw_l F K hP hD hS hA (by decide) (N := 24) (by decide +kernel) (Nat.le_of_ble_eq_true rfl) (Nat.le_of_ble_eq_true rfl) (Nat.le_of_ble_eq_true rfl) dX1_init_16 (fun q2 H hP hD hS => ?_)
  have hP : va_P D vwCl [(h0, .inr (1, [.int 0, .null, .null, .null, .ref q1, .null, .null, .int 0, .int 0])), (q1, .inl (cy 1, 1024, .inl (fun _ => 0))), (q2, .inl (cy 2, 24, .inr (.inl (fun _ => 0))))] H := hP
  have hD : va_D A [(h0, .inr (1, [.int 0, .null, .null, .null, .ref q1, .null, .null, .int 0, .int 0])), (q1, .inl (cy 1, 1024, .inl (fun _ => 0))), (q2, .inl (cy 2, 24, .inr (.inl (fun _ => 0))))] := hD
  refine va_putF (D := D) (ci := 1) (v := .ref q2) (ty := .array .long) (C := RX1) (T := TX1) (N := 9) F.1 F.2.1 F.2.2.2.2 (fun w h => List.mem_cons_of_mem _ (inG_X1 w h)) tyX1 tyX1_ok nmX1 F.2.2.2.1 K hP hD hS 0 rfl rfl 6 (by decide) (F.2.2.2.2 _ (List.mem_cons_of_mem _ wd33)) (fun _ h => h) rfl hin rfl (by decide +kernel) rfl rfl (Nat.le_of_ble_eq_true rfl) dX1_init_18 (fun H locs hP hD hS => ?_)
  have hP : va_P D vwCl [(h0, .inr (1, [.int 0, .null, .null, .null, .ref q1, .null, .ref q2, .int 0, .int 0])), (q1, .inl (cy 1, 1024, .inl (fun _ => 0))), (q2, .inl (cy 2, 24, .inr (.inl (fun _ => 0))))] H := hP
  have hD : va_D A [(h0, .inr (1, [.int 0, .null, .null, .null, .ref q1, .null, .ref q2, .int 0, .int 0])), (q1, .inl (cy 1, 1024, .inl (fun _ => 0))), (q2, .inl (cy 2, 24, .inr (.inl (fun _ => 0))))] := hD
  refine lv_aload_n hx hb dX1_init_21 rfl (lv_at hl 0 rfl) ?_
  refine lv_iload_n hx hb dX1_init_22 rfl (lv_at hl 1 rfl) ?_
  refine lv_iconst (v := 0) hx hb dX1_init_23 (by decide) ?_
  refine va_mmax F.1 F.2.1 (F.2.2.1.trans hl.1.symm) F.2.2.2.1 (F.2.2.2.2 _ (List.mem_cons_of_mem _ wd1366)) (F.2.2.2.2 _ (List.mem_cons_of_mem _ mth_w1)) (F.2.2.2.2 _ (List.mem_cons_of_mem _ mth_w3)) (F.2.2.2.2 _ (List.mem_cons_of_mem _ mth_w4)) (Nat.le_of_ble_eq_true rfl) (Nat.le_of_ble_eq_true rfl) (Nat.le_of_ble_eq_true rfl) (Nat.le_of_ble_eq_true rfl) dX1_init_24 ?_
  refine W.eq (g2 := F0 m 27 ls [.int 2000, .ref h0]) rfl ?_
  refine va_putF (D := D) (ci := 1) (v := .int 2000) (ty := .int) (C := RX1) (T := TX1) (N := 9) F.1 F.2.1 F.2.2.2.2 (fun w h => List.mem_cons_of_mem _ (inG_X1 w h)) tyX1 tyX1_ok nmX1 F.2.2.2.1 K hP hD hS 0 rfl rfl 0 (by decide) (F.2.2.2.2 _ (List.mem_cons_of_mem _ wd11)) (fun _ h => h) rfl hin rfl (by decide +kernel) rfl rfl (Nat.le_of_ble_eq_true rfl) dX1_init_27 (fun H locs hP hD hS => ?_)
  have hP : va_P D vwCl [(h0, .inr (1, [.int 2000, .null, .null, .null, .ref q1, .null, .ref q2, .int 0, .int 0])), (q1, .inl (cy 1, 1024, .inl (fun _ => 0))), (q2, .inl (cy 2, 24, .inr (.inl (fun _ => 0))))] H := hP
  have hD : va_D A [(h0, .inr (1, [.int 2000, .null, .null, .null, .ref q1, .null, .ref q2, .int 0, .int 0])), (q1, .inl (cy 1, 1024, .inl (fun _ => 0))), (q2, .inl (cy 2, 24, .inr (.inl (fun _ => 0))))] := hD
  refine lv_aload_n hx hb dX1_init_30 rfl (lv_at hl 0 rfl) ?_
  refine lv_aload_n hx hb dX1_init_31 rfl (lv_at hl 0 rfl) ?_
  refine va_get (D := D) (ci := 1) (v := .int 2000) (C := RX1) (T := TX1) (N := 9) F.1 F.2.1 F.2.2.2.2 (fun w h => List.mem_cons_of_mem _ (inG_X1 w h)) F.2.2.2.1 K hP 0 rfl rfl 0 (by decide) (F.2.2.2.2 _ (List.mem_cons_of_mem _ wd11)) (fun _ h => h) rfl dX1_init_32 ?_
  refine nw_i F K hP hD hS hA (by decide) (N := 2000) (by decide +kernel) (Nat.le_of_ble_eq_true rfl) (Nat.le_of_ble_eq_true rfl) (Nat.le_of_ble_eq_true rfl) dX1_init_35 (fun q3 H hP hD hS => ?_)
  have hP : va_P D vwCl [(h0, .inr (1, [.int 2000, .null, .null, .null, .ref q1, .null, .ref q2, .int 0, .int 0])), (q1, .inl (cy 1, 1024, .inl (fun _ => 0))), (q2, .inl (cy 2, 24, .inr (.inl (fun _ => 0)))), (q3, .inl (cy 1, 2000, .inl (fun _ => 0)))] H := hP
  have hD : va_D A [(h0, .inr (1, [.int 2000, .null, .null, .null, .ref q1, .null, .ref q2, .int 0, .int 0])), (q1, .inl (cy 1, 1024, .inl (fun _ => 0))), (q2, .inl (cy 2, 24, .inr (.inl (fun _ => 0)))), (q3, .inl (cy 1, 2000, .inl (fun _ => 0)))] := hD
  refine va_putF (D := D) (ci := 1) (v := .ref q3) (ty := .array .int) (C := RX1) (T := TX1) (N := 9) F.1 F.2.1 F.2.2.2.2 (fun w h => List.mem_cons_of_mem _ (inG_X1 w h)) tyX1 tyX1_ok nmX1 F.2.2.2.1 K hP hD hS 0 rfl rfl 1 (by decide) (F.2.2.2.2 _ (List.mem_cons_of_mem _ wd12)) (fun _ h => h) rfl hin rfl (by decide +kernel) rfl rfl (Nat.le_of_ble_eq_true rfl) dX1_init_37 (fun H locs hP hD hS => ?_)
  have hP : va_P D vwCl [(h0, .inr (1, [.int 2000, .ref q3, .null, .null, .ref q1, .null, .ref q2, .int 0, .int 0])), (q1, .inl (cy 1, 1024, .inl (fun _ => 0))), (q2, .inl (cy 2, 24, .inr (.inl (fun _ => 0)))), (q3, .inl (cy 1, 2000, .inl (fun _ => 0)))] H := hP
  have hD : va_D A [(h0, .inr (1, [.int 2000, .ref q3, .null, .null, .ref q1, .null, .ref q2, .int 0, .int 0])), (q1, .inl (cy 1, 1024, .inl (fun _ => 0))), (q2, .inl (cy 2, 24, .inr (.inl (fun _ => 0)))), (q3, .inl (cy 1, 2000, .inl (fun _ => 0)))] := hD
  refine lv_aload_n hx hb dX1_init_40 rfl (lv_at hl 0 rfl) ?_
  refine lv_aload_n hx hb dX1_init_41 rfl (lv_at hl 0 rfl) ?_
  refine va_get (D := D) (ci := 1) (v := .int 2000) (C := RX1) (T := TX1) (N := 9) F.1 F.2.1 F.2.2.2.2 (fun w h => List.mem_cons_of_mem _ (inG_X1 w h)) F.2.2.2.1 K hP 0 rfl rfl 0 (by decide) (F.2.2.2.2 _ (List.mem_cons_of_mem _ wd11)) (fun _ h => h) rfl dX1_init_42 ?_
  refine nw_i F K hP hD hS hA (by decide) (N := 2000) (by decide +kernel) (Nat.le_of_ble_eq_true rfl) (Nat.le_of_ble_eq_true rfl) (Nat.le_of_ble_eq_true rfl) dX1_init_45 (fun q4 H hP hD hS => ?_)
  have hP : va_P D vwCl [(h0, .inr (1, [.int 2000, .ref q3, .null, .null, .ref q1, .null, .ref q2, .int 0, .int 0])), (q1, .inl (cy 1, 1024, .inl (fun _ => 0))), (q2, .inl (cy 2, 24, .inr (.inl (fun _ => 0)))), (q3, .inl (cy 1, 2000, .inl (fun _ => 0))), (q4, .inl (cy 1, 2000, .inl (fun _ => 0)))] H := hP
  have hD : va_D A [(h0, .inr (1, [.int 2000, .ref q3, .null, .null, .ref q1, .null, .ref q2, .int 0, .int 0])), (q1, .inl (cy 1, 1024, .inl (fun _ => 0))), (q2, .inl (cy 2, 24, .inr (.inl (fun _ => 0)))), (q3, .inl (cy 1, 2000, .inl (fun _ => 0))), (q4, .inl (cy 1, 2000, .inl (fun _ => 0)))] := hD
  refine va_putF (D := D) (ci := 1) (v := .ref q4) (ty := .array .int) (C := RX1) (T := TX1) (N := 9) F.1 F.2.1 F.2.2.2.2 (fun w h => List.mem_cons_of_mem _ (inG_X1 w h)) tyX1 tyX1_ok nmX1 F.2.2.2.1 K hP hD hS 0 rfl rfl 2 (by decide) (F.2.2.2.2 _ (List.mem_cons_of_mem _ wd18)) (fun _ h => h) rfl hin rfl (by decide +kernel) rfl rfl (Nat.le_of_ble_eq_true rfl) dX1_init_47 (fun H locs hP hD hS => ?_)
  have hP : va_P D vwCl [(h0, .inr (1, [.int 2000, .ref q3, .ref q4, .null, .ref q1, .null, .ref q2, .int 0, .int 0])), (q1, .inl (cy 1, 1024, .inl (fun _ => 0))), (q2, .inl (cy 2, 24, .inr (.inl (fun _ => 0)))), (q3, .inl (cy 1, 2000, .inl (fun _ => 0))), (q4, .inl (cy 1, 2000, .inl (fun _ => 0)))] H := hP
  have hD : va_D A [(h0, .inr (1, [.int 2000, .ref q3, .ref q4, .null, .ref q1, .null, .ref q2, .int 0, .int 0])), (q1, .inl (cy 1, 1024, .inl (fun _ => 0))), (q2, .inl (cy 2, 24, .inr (.inl (fun _ => 0)))), (q3, .inl (cy 1, 2000, .inl (fun _ => 0))), (q4, .inl (cy 1, 2000, .inl (fun _ => 0)))] := hD
  refine lv_aload_n hx hb dX1_init_50 rfl (lv_at hl 0 rfl) ?_
  refine lv_aload_n hx hb dX1_init_51 rfl (lv_at hl 0 rfl) ?_
  refine va_get (D := D) (ci := 1) (v := .int 2000) (C := RX1) (T := TX1) (N := 9) F.1 F.2.1 F.2.2.2.2 (fun w h => List.mem_cons_of_mem _ (inG_X1 w h)) F.2.2.2.1 K hP 0 rfl rfl 0 (by decide) (F.2.2.2.2 _ (List.mem_cons_of_mem _ wd11)) (fun _ h => h) rfl dX1_init_52 ?_
  refine nw_i F K hP hD hS hA (by decide) (N := 2000) (by decide +kernel) (Nat.le_of_ble_eq_true rfl) (Nat.le_of_ble_eq_true rfl) (Nat.le_of_ble_eq_true rfl) dX1_init_55 (fun q5 H hP hD hS => ?_)
  have hP : va_P D vwCl [(h0, .inr (1, [.int 2000, .ref q3, .ref q4, .null, .ref q1, .null, .ref q2, .int 0, .int 0])), (q1, .inl (cy 1, 1024, .inl (fun _ => 0))), (q2, .inl (cy 2, 24, .inr (.inl (fun _ => 0)))), (q3, .inl (cy 1, 2000, .inl (fun _ => 0))), (q4, .inl (cy 1, 2000, .inl (fun _ => 0))), (q5, .inl (cy 1, 2000, .inl (fun _ => 0)))] H := hP
  have hD : va_D A [(h0, .inr (1, [.int 2000, .ref q3, .ref q4, .null, .ref q1, .null, .ref q2, .int 0, .int 0])), (q1, .inl (cy 1, 1024, .inl (fun _ => 0))), (q2, .inl (cy 2, 24, .inr (.inl (fun _ => 0)))), (q3, .inl (cy 1, 2000, .inl (fun _ => 0))), (q4, .inl (cy 1, 2000, .inl (fun _ => 0))), (q5, .inl (cy 1, 2000, .inl (fun _ => 0)))] := hD
  refine va_putF (D := D) (ci := 1) (v := .ref q5) (ty := .array .int) (C := RX1) (T := TX1) (N := 9) F.1 F.2.1 F.2.2.2.2 (fun w h => List.mem_cons_of_mem _ (inG_X1 w h)) tyX1 tyX1_ok nmX1 F.2.2.2.1 K hP hD hS 0 rfl rfl 3 (by decide) (F.2.2.2.2 _ (List.mem_cons_of_mem _ wd19)) (fun _ h => h) rfl hin rfl (by decide +kernel) rfl rfl (Nat.le_of_ble_eq_true rfl) dX1_init_57 (fun H locs hP hD hS => ?_)
  have hP : va_P D vwCl [(h0, .inr (1, [.int 2000, .ref q3, .ref q4, .ref q5, .ref q1, .null, .ref q2, .int 0, .int 0])), (q1, .inl (cy 1, 1024, .inl (fun _ => 0))), (q2, .inl (cy 2, 24, .inr (.inl (fun _ => 0)))), (q3, .inl (cy 1, 2000, .inl (fun _ => 0))), (q4, .inl (cy 1, 2000, .inl (fun _ => 0))), (q5, .inl (cy 1, 2000, .inl (fun _ => 0)))] H := hP
  have hD : va_D A [(h0, .inr (1, [.int 2000, .ref q3, .ref q4, .ref q5, .ref q1, .null, .ref q2, .int 0, .int 0])), (q1, .inl (cy 1, 1024, .inl (fun _ => 0))), (q2, .inl (cy 2, 24, .inr (.inl (fun _ => 0)))), (q3, .inl (cy 1, 2000, .inl (fun _ => 0))), (q4, .inl (cy 1, 2000, .inl (fun _ => 0))), (q5, .inl (cy 1, 2000, .inl (fun _ => 0)))] := hD
  refine lv_aload_n hx hb dX1_init_60 rfl (lv_at hl 0 rfl) ?_
  refine lv_aload_n hx hb dX1_init_61 rfl (lv_at hl 0 rfl) ?_
  refine va_get (D := D) (ci := 1) (v := .int 2000) (C := RX1) (T := TX1) (N := 9) F.1 F.2.1 F.2.2.2.2 (fun w h => List.mem_cons_of_mem _ (inG_X1 w h)) F.2.2.2.1 K hP 0 rfl rfl 0 (by decide) (F.2.2.2.2 _ (List.mem_cons_of_mem _ wd11)) (fun _ h => h) rfl dX1_init_62 ?_
  refine nw_i F K hP hD hS hA (by decide) (N := 2000) (by decide +kernel) (Nat.le_of_ble_eq_true rfl) (Nat.le_of_ble_eq_true rfl) (Nat.le_of_ble_eq_true rfl) dX1_init_65 (fun q6 H hP hD hS => ?_)
  have hP : va_P D vwCl [(h0, .inr (1, [.int 2000, .ref q3, .ref q4, .ref q5, .ref q1, .null, .ref q2, .int 0, .int 0])), (q1, .inl (cy 1, 1024, .inl (fun _ => 0))), (q2, .inl (cy 2, 24, .inr (.inl (fun _ => 0)))), (q3, .inl (cy 1, 2000, .inl (fun _ => 0))), (q4, .inl (cy 1, 2000, .inl (fun _ => 0))), (q5, .inl (cy 1, 2000, .inl (fun _ => 0))), (q6, .inl (cy 1, 2000, .inl (fun _ => 0)))] H := hP
  have hD : va_D A [(h0, .inr (1, [.int 2000, .ref q3, .ref q4, .ref q5, .ref q1, .null, .ref q2, .int 0, .int 0])), (q1, .inl (cy 1, 1024, .inl (fun _ => 0))), (q2, .inl (cy 2, 24, .inr (.inl (fun _ => 0)))), (q3, .inl (cy 1, 2000, .inl (fun _ => 0))), (q4, .inl (cy 1, 2000, .inl (fun _ => 0))), (q5, .inl (cy 1, 2000, .inl (fun _ => 0))), (q6, .inl (cy 1, 2000, .inl (fun _ => 0)))] := hD
  refine va_putF (D := D) (ci := 1) (v := .ref q6) (ty := .array .int) (C := RX1) (T := TX1) (N := 9) F.1 F.2.1 F.2.2.2.2 (fun w h => List.mem_cons_of_mem _ (inG_X1 w h)) tyX1 tyX1_ok nmX1 F.2.2.2.1 K hP hD hS 0 rfl rfl 5 (by decide) (F.2.2.2.2 _ (List.mem_cons_of_mem _ wd21)) (fun _ h => h) rfl hin rfl (by decide +kernel) rfl rfl (Nat.le_of_ble_eq_true rfl) dX1_init_67 (fun H locs hP hD hS => ?_)
  have hP : va_P D vwCl [(h0, .inr (1, [.int 2000, .ref q3, .ref q4, .ref q5, .ref q1, .ref q6, .ref q2, .int 0, .int 0])), (q1, .inl (cy 1, 1024, .inl (fun _ => 0))), (q2, .inl (cy 2, 24, .inr (.inl (fun _ => 0)))), (q3, .inl (cy 1, 2000, .inl (fun _ => 0))), (q4, .inl (cy 1, 2000, .inl (fun _ => 0))), (q5, .inl (cy 1, 2000, .inl (fun _ => 0))), (q6, .inl (cy 1, 2000, .inl (fun _ => 0)))] H := hP
  have hD : va_D A [(h0, .inr (1, [.int 2000, .ref q3, .ref q4, .ref q5, .ref q1, .ref q6, .ref q2, .int 0, .int 0])), (q1, .inl (cy 1, 1024, .inl (fun _ => 0))), (q2, .inl (cy 2, 24, .inr (.inl (fun _ => 0)))), (q3, .inl (cy 1, 2000, .inl (fun _ => 0))), (q4, .inl (cy 1, 2000, .inl (fun _ => 0))), (q5, .inl (cy 1, 2000, .inl (fun _ => 0))), (q6, .inl (cy 1, 2000, .inl (fun _ => 0)))] := hD
  refine lv_aload_n hx hb dX1_init_70 rfl (lv_at hl 0 rfl) ?_
  refine lv_iconst (v := 0) hx hb dX1_init_71 (by decide) ?_
  refine lv_iconst (v := 0) hx hb dX1_init_72 (by decide) ?_
  refine lv_iconst (v := 0) hx hb dX1_init_73 (by decide) ?_
  refine call_Vc (q := (RX1, TX1, 9)) (n := 3) (As := [.int 0, .int 0, .int 0]) (rv := some (.int 0)) (w := wF2 (fun k => ([h0, q1, q2, q3, q4, q5, q6] : List Nat).getD k 0) cy stZ) (w' := wF2 (fun k => ([h0, q1, q2, q3, q4, q5, q6] : List Nat).getD k 0) cy stwF2_1) 0 1 F K E hA (⟨hP, hD, hS⟩ : ZG D (wF2 (fun k => ([h0, q1, q2, q3, q4, q5, q6] : List Nat).getD k 0) cy stZ) A s H locs) (c_X1_joined_wF2 (l := l) (D := D) (cy := cy) (ee := ee) (ad := (fun k => ([h0, q1, q2, q3, q4, q5, q6] : List Nat).getD k 0)) hstwF2_1) ⟨wd195, wd1367, wd196, wd197, wd17⟩ (by decide +kernel) rfl rfl ⟨Nat.le_of_ble_eq_true rfl, Nat.le_of_ble_eq_true rfl⟩ ⟨Nat.le_of_ble_eq_true rfl, Nat.le_of_ble_eq_true rfl⟩ rfl hl.1 (Nat.le_of_ble_eq_true rfl) dX1_init_74 (fun H locs Z => ?_)
  obtain ⟨hP, hD, hS⟩ := Z
  have hP : va_P D vwCl [(h0, .inr (1, [.int 2000, .ref q3, .ref q4, .ref q5, .ref q1, .ref q6, .ref q2, .int (stwF2_1.1 0), .int (stwF2_1.1 1)])), (q1, .inl (cy 1, 1024, .inl (stwF2_1.2.1 0))), (q2, .inl (cy 2, 24, .inr (.inl (stwF2_1.2.2.2 0)))), (q3, .inl (cy 1, 2000, .inl (stwF2_1.2.1 1))), (q4, .inl (cy 1, 2000, .inl (stwF2_1.2.1 2))), (q5, .inl (cy 1, 2000, .inl (stwF2_1.2.1 3))), (q6, .inl (cy 1, 2000, .inl (stwF2_1.2.1 4)))] H := hP
  have hD : va_D A [(h0, .inr (1, [.int 2000, .ref q3, .ref q4, .ref q5, .ref q1, .ref q6, .ref q2, .int (stwF2_1.1 0), .int (stwF2_1.1 1)])), (q1, .inl (cy 1, 1024, .inl (stwF2_1.2.1 0))), (q2, .inl (cy 2, 24, .inr (.inl (stwF2_1.2.2.2 0)))), (q3, .inl (cy 1, 2000, .inl (stwF2_1.2.1 1))), (q4, .inl (cy 1, 2000, .inl (stwF2_1.2.1 2))), (q5, .inl (cy 1, 2000, .inl (stwF2_1.2.1 3))), (q6, .inl (cy 1, 2000, .inl (stwF2_1.2.1 4)))] := hD
  refine lv_pop hx hb dX1_init_77 rfl ?_
  refine lv_aload_n hx hb dX1_init_78 rfl (lv_at hl 0 rfl) ?_
  refine lv_iconst (v := 1) hx hb dX1_init_79 (by decide) ?_
  refine lv_iconst (v := 0) hx hb dX1_init_80 (by decide) ?_
  refine lv_iconst (v := 0) hx hb dX1_init_81 (by decide) ?_
  refine call_Vc (q := (RX1, TX1, 9)) (n := 3) (As := [.int 1, .int 0, .int 0]) (rv := some (.int 1)) (w := wF2 (fun k => ([h0, q1, q2, q3, q4, q5, q6] : List Nat).getD k 0) cy stwF2_1) (w' := wF2 (fun k => ([h0, q1, q2, q3, q4, q5, q6] : List Nat).getD k 0) cy stwF2_2) 0 1 F K E hA (⟨hP, hD, hS⟩ : ZG D (wF2 (fun k => ([h0, q1, q2, q3, q4, q5, q6] : List Nat).getD k 0) cy stwF2_1) A s H locs) (c_X1_joined_wF2 (l := l) (D := D) (cy := cy) (ee := ee) (ad := (fun k => ([h0, q1, q2, q3, q4, q5, q6] : List Nat).getD k 0)) hstwF2_2) ⟨wd195, wd1367, wd196, wd197, wd17⟩ (by decide +kernel) rfl rfl ⟨Nat.le_of_ble_eq_true rfl, Nat.le_of_ble_eq_true rfl⟩ ⟨Nat.le_of_ble_eq_true rfl, Nat.le_of_ble_eq_true rfl⟩ rfl hl.1 (Nat.le_of_ble_eq_true rfl) dX1_init_82 (fun H locs Z => ?_)
  obtain ⟨hP, hD, hS⟩ := Z
  have hP : va_P D vwCl [(h0, .inr (1, [.int 2000, .ref q3, .ref q4, .ref q5, .ref q1, .ref q6, .ref q2, .int (stwF2_2.1 0), .int (stwF2_2.1 1)])), (q1, .inl (cy 1, 1024, .inl (stwF2_2.2.1 0))), (q2, .inl (cy 2, 24, .inr (.inl (stwF2_2.2.2.2 0)))), (q3, .inl (cy 1, 2000, .inl (stwF2_2.2.1 1))), (q4, .inl (cy 1, 2000, .inl (stwF2_2.2.1 2))), (q5, .inl (cy 1, 2000, .inl (stwF2_2.2.1 3))), (q6, .inl (cy 1, 2000, .inl (stwF2_2.2.1 4)))] H := hP
  have hD : va_D A [(h0, .inr (1, [.int 2000, .ref q3, .ref q4, .ref q5, .ref q1, .ref q6, .ref q2, .int (stwF2_2.1 0), .int (stwF2_2.1 1)])), (q1, .inl (cy 1, 1024, .inl (stwF2_2.2.1 0))), (q2, .inl (cy 2, 24, .inr (.inl (stwF2_2.2.2.2 0)))), (q3, .inl (cy 1, 2000, .inl (stwF2_2.2.1 1))), (q4, .inl (cy 1, 2000, .inl (stwF2_2.2.1 2))), (q5, .inl (cy 1, 2000, .inl (stwF2_2.2.1 3))), (q6, .inl (cy 1, 2000, .inl (stwF2_2.2.1 4)))] := hD
  refine lv_pop hx hb dX1_init_85 rfl ?_
  refine W.widen (k := 6) (n := 9048) (Nat.le_of_ble_eq_true rfl) (Nat.le_of_ble_eq_true rfl) ?_
  exact ret_I (fun k => ([h0, q1, q2, q3, q4, q5, q6] : List Nat).getD k 0) F hr hk rfl hP hD hS dX1_init_86

def stwF3_1 : StT := ((f_X1_joined_wF3 5 stZ 0 0 0).getD (0, stZ)).2
theorem hstwF3_1 : f_X1_joined_wF3 5 stZ 0 0 0 = some (0, stwF3_1) := rfl
def stwF3_2 : StT := ((f_X1_joined_wF3 5 stwF3_1 1 0 0).getD (0, stZ)).2
theorem hstwF3_2 : f_X1_joined_wF3 5 stwF3_1 1 0 0 = some (1, stwF3_2) := rfl


set_option maxRecDepth 100000 in
set_option maxHeartbeats 8000000 in
theorem i_F3 {l : Launch} {D : va_G} {cy : Nat → ClassId} {ee : EE} {h0 : Nat} : CI l yX1_init cX1_init 2 2 51 6 13048 D cy ee [(h0, .inr (1, [.int 0, .null, .null, .null, .null, .null, .null, .int 0, .int 0]))] h0 (fun u => [((u 0), .inr (1, [.int 3000, .ref (u 3), .ref (u 4), .ref (u 5), .ref (u 1), .ref (u 6), .ref (u 2), .int (stwF3_2.1 0), .int (stwF3_2.1 1)])), ((u 1), .inl (cy 1, 1024, .inl (stwF3_2.2.1 0))), ((u 2), .inl (cy 2, 24, .inr (.inl (stwF3_2.2.2.2 0)))), ((u 3), .inl (cy 1, 3000, .inl (stwF3_2.2.1 1))), ((u 4), .inl (cy 1, 3000, .inl (stwF3_2.2.1 2))), ((u 5), .inl (cy 1, 3000, .inl (stwF3_2.2.1 3))), ((u 6), .inl (cy 1, 3000, .inl (stwF3_2.2.1 4)))]) [.ref h0, .int 3000] := by
  refine CI.of (by decide +kernel) (Nat.le_of_ble_eq_true rfl) ?_
  intro p e s m args below meth c A F hr hk hin K E I hA hP hD hS ls hl
  have hl : lv_has ls 2 [(0, .ref h0), (1, .int 3000)] := hl
  have hx := F.1
  have hb := F.2.1
  have hin : meth.name = "<init>" := hin
  refine lv_aload_n hx hb dX1_init_0 rfl (lv_at hl 0 rfl) ?_
  refine W.objInit hx hb F.2.2.2.1 (F.2.2.2.2 _ (List.mem_cons_of_mem _ oi_X1)) (F.2.2.2.2 _ (List.mem_cons_of_mem _ oi_w1)) (F.2.2.2.2 _ (List.mem_cons_of_mem _ oi_w2)) rfl (by rw [F.2.2.1]; exact hl.1) rfl dX1_init_1 (Nat.le_of_ble_eq_true rfl) (Nat.le_of_ble_eq_true rfl) ?_
  refine W.eq (g2 := F0 m 4 ls []) rfl ?_
  refine lv_aload_n hx hb dX1_init_4 rfl (lv_at hl 0 rfl) ?_
  refine lv_sipush (v := 1024) hx hb dX1_init_5 (by decide) ?_
  refine nw_i F K hP hD hS hA (by decide) (N := 1024) (by decide +kernel) (Nat.le_of_ble_eq_true rfl) (Nat.le_of_ble_eq_true rfl) (Nat.le_of_ble_eq_true rfl) dX1_init_8 (fun q1 H hP hD hS => ?_)
  have hP : va_P D vwCl [(h0, .inr (1, [.int 0, .null, .null, .null, .null, .null, .null, .int 0, .int 0])), (q1, .inl (cy 1, 1024, .inl (fun _ => 0)))] H := hP
  have hD : va_D A [(h0, .inr (1, [.int 0, .null, .null, .null, .null, .null, .null, .int 0, .int 0])), (q1, .inl (cy 1, 1024, .inl (fun _ => 0)))] := hD
  refine va_putF (D := D) (ci := 1) (v := .ref q1) (ty := .array .int) (C := RX1) (T := TX1) (N := 9) F.1 F.2.1 F.2.2.2.2 (fun w h => List.mem_cons_of_mem _ (inG_X1 w h)) tyX1 tyX1_ok nmX1 F.2.2.2.1 K hP hD hS 0 rfl rfl 4 (by decide) (F.2.2.2.2 _ (List.mem_cons_of_mem _ wd20)) (fun _ h => h) rfl hin rfl (by decide +kernel) rfl rfl (Nat.le_of_ble_eq_true rfl) dX1_init_10 (fun H locs hP hD hS => ?_)
  have hP : va_P D vwCl [(h0, .inr (1, [.int 0, .null, .null, .null, .ref q1, .null, .null, .int 0, .int 0])), (q1, .inl (cy 1, 1024, .inl (fun _ => 0)))] H := hP
  have hD : va_D A [(h0, .inr (1, [.int 0, .null, .null, .null, .ref q1, .null, .null, .int 0, .int 0])), (q1, .inl (cy 1, 1024, .inl (fun _ => 0)))] := hD
  refine lv_aload_n hx hb dX1_init_13 rfl (lv_at hl 0 rfl) ?_
  refine lv_bipush (v := 24) hx hb dX1_init_14 (by decide) ?_
  refine nw_l F K hP hD hS hA (by decide) (N := 24) (by decide +kernel) (Nat.le_of_ble_eq_true rfl) (Nat.le_of_ble_eq_true rfl) (Nat.le_of_ble_eq_true rfl) dX1_init_16 (fun q2 H hP hD hS => ?_)
  have hP : va_P D vwCl [(h0, .inr (1, [.int 0, .null, .null, .null, .ref q1, .null, .null, .int 0, .int 0])), (q1, .inl (cy 1, 1024, .inl (fun _ => 0))), (q2, .inl (cy 2, 24, .inr (.inl (fun _ => 0))))] H := hP
  have hD : va_D A [(h0, .inr (1, [.int 0, .null, .null, .null, .ref q1, .null, .null, .int 0, .int 0])), (q1, .inl (cy 1, 1024, .inl (fun _ => 0))), (q2, .inl (cy 2, 24, .inr (.inl (fun _ => 0))))] := hD
  refine va_putF (D := D) (ci := 1) (v := .ref q2) (ty := .array .long) (C := RX1) (T := TX1) (N := 9) F.1 F.2.1 F.2.2.2.2 (fun w h => List.mem_cons_of_mem _ (inG_X1 w h)) tyX1 tyX1_ok nmX1 F.2.2.2.1 K hP hD hS 0 rfl rfl 6 (by decide) (F.2.2.2.2 _ (List.mem_cons_of_mem _ wd33)) (fun _ h => h) rfl hin rfl (by decide +kernel) rfl rfl (Nat.le_of_ble_eq_true rfl) dX1_init_18 (fun H locs hP hD hS => ?_)
  have hP : va_P D vwCl [(h0, .inr (1, [.int 0, .null, .null, .null, .ref q1, .null, .ref q2, .int 0, .int 0])), (q1, .inl (cy 1, 1024, .inl (fun _ => 0))), (q2, .inl (cy 2, 24, .inr (.inl (fun _ => 0))))] H := hP
  have hD : va_D A [(h0, .inr (1, [.int 0, .null, .null, .null, .ref q1, .null, .ref q2, .int 0, .int 0])), (q1, .inl (cy 1, 1024, .inl (fun _ => 0))), (q2, .inl (cy 2, 24, .inr (.inl (fun _ => 0))))] := hD
  refine lv_aload_n hx hb dX1_init_21 rfl (lv_at hl 0 rfl) ?_
  refine lv_iload_n hx hb dX1_init_22 rfl (lv_at hl 1 rfl) ?_
  refine lv_iconst (v := 0) hx hb dX1_init_23 (by decide) ?_
  refine va_mmax F.1 F.2.1 (F.2.2.1.trans hl.1.symm) F.2.2.2.1 (F.2.2.2.2 _ (List.mem_cons_of_mem _ wd1366)) (F.2.2.2.2 _ (List.mem_cons_of_mem _ mth_w1)) (F.2.2.2.2 _ (List.mem_cons_of_mem _ mth_w3)) (F.2.2.2.2 _ (List.mem_cons_of_mem _ mth_w4)) (Nat.le_of_ble_eq_true rfl) (Nat.le_of_ble_eq_true rfl) (Nat.le_of_ble_eq_true rfl) (Nat.le_of_ble_eq_true rfl) dX1_init_24 ?_
  refine W.eq (g2 := F0 m 27 ls [.int 3000, .ref h0]) rfl ?_
  refine va_putF (D := D) (ci := 1) (v := .int 3000) (ty := .int) (C := RX1) (T := TX1) (N := 9) F.1 F.2.1 F.2.2.2.2 (fun w h => List.mem_cons_of_mem _ (inG_X1 w h)) tyX1 tyX1_ok nmX1 F.2.2.2.1 K hP hD hS 0 rfl rfl 0 (by decide) (F.2.2.2.2 _ (List.mem_cons_of_mem _ wd11)) (fun _ h => h) rfl hin rfl (by decide +kernel) rfl rfl (Nat.le_of_ble_eq_true rfl) dX1_init_27 (fun H locs hP hD hS => ?_)
  have hP : va_P D vwCl [(h0, .inr (1, [.int 3000, .null, .null, .null, .ref q1, .null, .ref q2, .int 0, .int 0])), (q1, .inl (cy 1, 1024, .inl (fun _ => 0))), (q2, .inl (cy 2, 24, .inr (.inl (fun _ => 0))))] H := hP
  have hD : va_D A [(h0, .inr (1, [.int 3000, .null, .null, .null, .ref q1, .null, .ref q2, .int 0, .int 0])), (q1, .inl (cy 1, 1024, .inl (fun _ => 0))), (q2, .inl (cy 2, 24, .inr (.inl (fun _ => 0))))] := hD
  refine lv_aload_n hx hb dX1_init_30 rfl (lv_at hl 0 rfl) ?_
  refine lv_aload_n hx hb dX1_init_31 rfl (lv_at hl 0 rfl) ?_
  refine va_get (D := D) (ci := 1) (v := .int 3000) (C := RX1) (T := TX1) (N := 9) F.1 F.2.1 F.2.2.2.2 (fun w h => List.mem_cons_of_mem _ (inG_X1 w h)) F.2.2.2.1 K hP 0 rfl rfl 0 (by decide) (F.2.2.2.2 _ (List.mem_cons_of_mem _ wd11)) (fun _ h => h) rfl dX1_init_32 ?_
  refine nw_i F K hP hD hS hA (by decide) (N := 3000) (by decide +kernel) (Nat.le_of_ble_eq_true rfl) (Nat.le_of_ble_eq_true rfl) (Nat.le_of_ble_eq_true rfl) dX1_init_35 (fun q3 H hP hD hS => ?_)
  have hP : va_P D vwCl [(h0, .inr (1, [.int 3000, .null, .null, .null, .ref q1, .null, .ref q2, .int 0, .int 0])), (q1, .inl (cy 1, 1024, .inl (fun _ => 0))), (q2, .inl (cy 2, 24, .inr (.inl (fun _ => 0)))), (q3, .inl (cy 1, 3000, .inl (fun _ => 0)))] H := hP
  have hD : va_D A [(h0, .inr (1, [.int 3000, .null, .null, .null, .ref q1, .null, .ref q2, .int 0, .int 0])), (q1, .inl (cy 1, 1024, .inl (fun _ => 0))), (q2, .inl (cy 2, 24, .inr (.inl (fun _ => 0)))), (q3, .inl (cy 1, 3000, .inl (fun _ => 0)))] := hD
  refine va_putF (D := D) (ci := 1) (v := .ref q3) (ty := .array .int) (C := RX1) (T := TX1) (N := 9) F.1 F.2.1 F.2.2.2.2 (fun w h => List.mem_cons_of_mem _ (inG_X1 w h)) tyX1 tyX1_ok nmX1 F.2.2.2.1 K hP hD hS 0 rfl rfl 1 (by decide) (F.2.2.2.2 _ (List.mem_cons_of_mem _ wd12)) (fun _ h => h) rfl hin rfl (by decide +kernel) rfl rfl (Nat.le_of_ble_eq_true rfl) dX1_init_37 (fun H locs hP hD hS => ?_)
  have hP : va_P D vwCl [(h0, .inr (1, [.int 3000, .ref q3, .null, .null, .ref q1, .null, .ref q2, .int 0, .int 0])), (q1, .inl (cy 1, 1024, .inl (fun _ => 0))), (q2, .inl (cy 2, 24, .inr (.inl (fun _ => 0)))), (q3, .inl (cy 1, 3000, .inl (fun _ => 0)))] H := hP
  have hD : va_D A [(h0, .inr (1, [.int 3000, .ref q3, .null, .null, .ref q1, .null, .ref q2, .int 0, .int 0])), (q1, .inl (cy 1, 1024, .inl (fun _ => 0))), (q2, .inl (cy 2, 24, .inr (.inl (fun _ => 0)))), (q3, .inl (cy 1, 3000, .inl (fun _ => 0)))] := hD
  refine lv_aload_n hx hb dX1_init_40 rfl (lv_at hl 0 rfl) ?_
  refine lv_aload_n hx hb dX1_init_41 rfl (lv_at hl 0 rfl) ?_
  refine va_get (D := D) (ci := 1) (v := .int 3000) (C := RX1) (T := TX1) (N := 9) F.1 F.2.1 F.2.2.2.2 (fun w h => List.mem_cons_of_mem _ (inG_X1 w h)) F.2.2.2.1 K hP 0 rfl rfl 0 (by decide) (F.2.2.2.2 _ (List.mem_cons_of_mem _ wd11)) (fun _ h => h) rfl dX1_init_42 ?_
  refine nw_i F K hP hD hS hA (by decide) (N := 3000) (by decide +kernel) (Nat.le_of_ble_eq_true rfl) (Nat.le_of_ble_eq_true rfl) (Nat.le_of_ble_eq_true rfl) dX1_init_45 (fun q4 H hP hD hS => ?_)
  have hP : va_P D vwCl [(h0, .inr (1, [.int 3000, .ref q3, .null, .null, .ref q1, .null, .ref q2, .int 0, .int 0])), (q1, .inl (cy 1, 1024, .inl (fun _ => 0))), (q2, .inl (cy 2, 24, .inr (.inl (fun _ => 0)))), (q3, .inl (cy 1, 3000, .inl (fun _ => 0))), (q4, .inl (cy 1, 3000, .inl (fun _ => 0)))] H := hP
  have hD : va_D A [(h0, .inr (1, [.int 3000, .ref q3, .null, .null, .ref q1, .null, .ref q2, .int 0, .int 0])), (q1, .inl (cy 1, 1024, .inl (fun _ => 0))), (q2, .inl (cy 2, 24, .inr (.inl (fun _ => 0)))), (q3, .inl (cy 1, 3000, .inl (fun _ => 0))), (q4, .inl (cy 1, 3000, .inl (fun _ => 0)))] := hD
  refine va_putF (D := D) (ci := 1) (v := .ref q4) (ty := .array .int) (C := RX1) (T := TX1) (N := 9) F.1 F.2.1 F.2.2.2.2 (fun w h => List.mem_cons_of_mem _ (inG_X1 w h)) tyX1 tyX1_ok nmX1 F.2.2.2.1 K hP hD hS 0 rfl rfl 2 (by decide) (F.2.2.2.2 _ (List.mem_cons_of_mem _ wd18)) (fun _ h => h) rfl hin rfl (by decide +kernel) rfl rfl (Nat.le_of_ble_eq_true rfl) dX1_init_47 (fun H locs hP hD hS => ?_)
  have hP : va_P D vwCl [(h0, .inr (1, [.int 3000, .ref q3, .ref q4, .null, .ref q1, .null, .ref q2, .int 0, .int 0])), (q1, .inl (cy 1, 1024, .inl (fun _ => 0))), (q2, .inl (cy 2, 24, .inr (.inl (fun _ => 0)))), (q3, .inl (cy 1, 3000, .inl (fun _ => 0))), (q4, .inl (cy 1, 3000, .inl (fun _ => 0)))] H := hP
  have hD : va_D A [(h0, .inr (1, [.int 3000, .ref q3, .ref q4, .null, .ref q1, .null, .ref q2, .int 0, .int 0])), (q1, .inl (cy 1, 1024, .inl (fun _ => 0))), (q2, .inl (cy 2, 24, .inr (.inl (fun _ => 0)))), (q3, .inl (cy 1, 3000, .inl (fun _ => 0))), (q4, .inl (cy 1, 3000, .inl (fun _ => 0)))] := hD
  refine lv_aload_n hx hb dX1_init_50 rfl (lv_at hl 0 rfl) ?_
  refine lv_aload_n hx hb dX1_init_51 rfl (lv_at hl 0 rfl) ?_
  refine va_get (D := D) (ci := 1) (v := .int 3000) (C := RX1) (T := TX1) (N := 9) F.1 F.2.1 F.2.2.2.2 (fun w h => List.mem_cons_of_mem _ (inG_X1 w h)) F.2.2.2.1 K hP 0 rfl rfl 0 (by decide) (F.2.2.2.2 _ (List.mem_cons_of_mem _ wd11)) (fun _ h => h) rfl dX1_init_52 ?_
  refine nw_i F K hP hD hS hA (by decide) (N := 3000) (by decide +kernel) (Nat.le_of_ble_eq_true rfl) (Nat.le_of_ble_eq_true rfl) (Nat.le_of_ble_eq_true rfl) dX1_init_55 (fun q5 H hP hD hS => ?_)
  have hP : va_P D vwCl [(h0, .inr (1, [.int 3000, .ref q3, .ref q4, .null, .ref q1, .null, .ref q2, .int 0, .int 0])), (q1, .inl (cy 1, 1024, .inl (fun _ => 0))), (q2, .inl (cy 2, 24, .inr (.inl (fun _ => 0)))), (q3, .inl (cy 1, 3000, .inl (fun _ => 0))), (q4, .inl (cy 1, 3000, .inl (fun _ => 0))), (q5, .inl (cy 1, 3000, .inl (fun _ => 0)))] H := hP
  have hD : va_D A [(h0, .inr (1, [.int 3000, .ref q3, .ref q4, .null, .ref q1, .null, .ref q2, .int 0, .int 0])), (q1, .inl (cy 1, 1024, .inl (fun _ => 0))), (q2, .inl (cy 2, 24, .inr (.inl (fun _ => 0)))), (q3, .inl (cy 1, 3000, .inl (fun _ => 0))), (q4, .inl (cy 1, 3000, .inl (fun _ => 0))), (q5, .inl (cy 1, 3000, .inl (fun _ => 0)))] := hD
  refine va_putF (D := D) (ci := 1) (v := .ref q5) (ty := .array .int) (C := RX1) (T := TX1) (N := 9) F.1 F.2.1 F.2.2.2.2 (fun w h => List.mem_cons_of_mem _ (inG_X1 w h)) tyX1 tyX1_ok nmX1 F.2.2.2.1 K hP hD hS 0 rfl rfl 3 (by decide) (F.2.2.2.2 _ (List.mem_cons_of_mem _ wd19)) (fun _ h => h) rfl hin rfl (by decide +kernel) rfl rfl (Nat.le_of_ble_eq_true rfl) dX1_init_57 (fun H locs hP hD hS => ?_)
  have hP : va_P D vwCl [(h0, .inr (1, [.int 3000, .ref q3, .ref q4, .ref q5, .ref q1, .null, .ref q2, .int 0, .int 0])), (q1, .inl (cy 1, 1024, .inl (fun _ => 0))), (q2, .inl (cy 2, 24, .inr (.inl (fun _ => 0)))), (q3, .inl (cy 1, 3000, .inl (fun _ => 0))), (q4, .inl (cy 1, 3000, .inl (fun _ => 0))), (q5, .inl (cy 1, 3000, .inl (fun _ => 0)))] H := hP
  have hD : va_D A [(h0, .inr (1, [.int 3000, .ref q3, .ref q4, .ref q5, .ref q1, .null, .ref q2, .int 0, .int 0])), (q1, .inl (cy 1, 1024, .inl (fun _ => 0))), (q2, .inl (cy 2, 24, .inr (.inl (fun _ => 0)))), (q3, .inl (cy 1, 3000, .inl (fun _ => 0))), (q4, .inl (cy 1, 3000, .inl (fun _ => 0))), (q5, .inl (cy 1, 3000, .inl (fun _ => 0)))] := hD
  refine lv_aload_n hx hb dX1_init_60 rfl (lv_at hl 0 rfl) ?_
  refine lv_aload_n hx hb dX1_init_61 rfl (lv_at hl 0 rfl) ?_
  refine va_get (D := D) (ci := 1) (v := .int 3000) (C := RX1) (T := TX1) (N := 9) F.1 F.2.1 F.2.2.2.2 (fun w h => List.mem_cons_of_mem _ (inG_X1 w h)) F.2.2.2.1 K hP 0 rfl rfl 0 (by decide) (F.2.2.2.2 _ (List.mem_cons_of_mem _ wd11)) (fun _ h => h) rfl dX1_init_62 ?_
  refine nw_i F K hP hD hS hA (by decide) (N := 3000) (by decide +kernel) (Nat.le_of_ble_eq_true rfl) (Nat.le_of_ble_eq_true rfl) (Nat.le_of_ble_eq_true rfl) dX1_init_65 (fun q6 H hP hD hS => ?_)
  have hP : va_P D vwCl [(h0, .inr (1, [.int 3000, .ref q3, .ref q4, .ref q5, .ref q1, .null, .ref q2, .int 0, .int 0])), (q1, .inl (cy 1, 1024, .inl (fun _ => 0))), (q2, .inl (cy 2, 24, .inr (.inl (fun _ => 0)))), (q3, .inl (cy 1, 3000, .inl (fun _ => 0))), (q4, .inl (cy 1, 3000, .inl (fun _ => 0))), (q5, .inl (cy 1, 3000, .inl (fun _ => 0))), (q6, .inl (cy 1, 3000, .inl (fun _ => 0)))] H := hP
  have hD : va_D A [(h0, .inr (1, [.int 3000, .ref q3, .ref q4, .ref q5, .ref q1, .null, .ref q2, .int 0, .int 0])), (q1, .inl (cy 1, 1024, .inl (fun _ => 0))), (q2, .inl (cy 2, 24, .inr (.inl (fun _ => 0)))), (q3, .inl (cy 1, 3000, .inl (fun _ => 0))), (q4, .inl (cy 1, 3000, .inl (fun _ => 0))), (q5, .inl (cy 1, 3000, .inl (fun _ => 0))), (q6, .inl (cy 1, 3000, .inl (fun _ => 0)))] := hD
  refine va_putF (D := D) (ci := 1) (v := .ref q6) (ty := .array .int) (C := RX1) (T := TX1) (N := 9) F.1 F.2.1 F.2.2.2.2 (fun w h => List.mem_cons_of_mem _ (inG_X1 w h)) tyX1 tyX1_ok nmX1 F.2.2.2.1 K hP hD hS 0 rfl rfl 5 (by decide) (F.2.2.2.2 _ (List.mem_cons_of_mem _ wd21)) (fun _ h => h) rfl hin rfl (by decide +kernel) rfl rfl (Nat.le_of_ble_eq_true rfl) dX1_init_67 (fun H locs hP hD hS => ?_)
  have hP : va_P D vwCl [(h0, .inr (1, [.int 3000, .ref q3, .ref q4, .ref q5, .ref q1, .ref q6, .ref q2, .int 0, .int 0])), (q1, .inl (cy 1, 1024, .inl (fun _ => 0))), (q2, .inl (cy 2, 24, .inr (.inl (fun _ => 0)))), (q3, .inl (cy 1, 3000, .inl (fun _ => 0))), (q4, .inl (cy 1, 3000, .inl (fun _ => 0))), (q5, .inl (cy 1, 3000, .inl (fun _ => 0))), (q6, .inl (cy 1, 3000, .inl (fun _ => 0)))] H := hP
  have hD : va_D A [(h0, .inr (1, [.int 3000, .ref q3, .ref q4, .ref q5, .ref q1, .ref q6, .ref q2, .int 0, .int 0])), (q1, .inl (cy 1, 1024, .inl (fun _ => 0))), (q2, .inl (cy 2, 24, .inr (.inl (fun _ => 0)))), (q3, .inl (cy 1, 3000, .inl (fun _ => 0))), (q4, .inl (cy 1, 3000, .inl (fun _ => 0))), (q5, .inl (cy 1, 3000, .inl (fun _ => 0))), (q6, .inl (cy 1, 3000, .inl (fun _ => 0)))] := hD
  refine lv_aload_n hx hb dX1_init_70 rfl (lv_at hl 0 rfl) ?_
  refine lv_iconst (v := 0) hx hb dX1_init_71 (by decide) ?_
  refine lv_iconst (v := 0) hx hb dX1_init_72 (by decide) ?_
  refine lv_iconst (v := 0) hx hb dX1_init_73 (by decide) ?_
  refine call_Vc (q := (RX1, TX1, 9)) (n := 3) (As := [.int 0, .int 0, .int 0]) (rv := some (.int 0)) (w := wF3 (fun k => ([h0, q1, q2, q3, q4, q5, q6] : List Nat).getD k 0) cy stZ) (w' := wF3 (fun k => ([h0, q1, q2, q3, q4, q5, q6] : List Nat).getD k 0) cy stwF3_1) 0 1 F K E hA (⟨hP, hD, hS⟩ : ZG D (wF3 (fun k => ([h0, q1, q2, q3, q4, q5, q6] : List Nat).getD k 0) cy stZ) A s H locs) (c_X1_joined_wF3 (l := l) (D := D) (cy := cy) (ee := ee) (ad := (fun k => ([h0, q1, q2, q3, q4, q5, q6] : List Nat).getD k 0)) hstwF3_1) ⟨wd195, wd1367, wd196, wd197, wd17⟩ (by decide +kernel) rfl rfl ⟨Nat.le_of_ble_eq_true rfl, Nat.le_of_ble_eq_true rfl⟩ ⟨Nat.le_of_ble_eq_true rfl, Nat.le_of_ble_eq_true rfl⟩ rfl hl.1 (Nat.le_of_ble_eq_true rfl) dX1_init_74 (fun H locs Z => ?_)
  obtain ⟨hP, hD, hS⟩ := Z
  have hP : va_P D vwCl [(h0, .inr (1, [.int 3000, .ref q3, .ref q4, .ref q5, .ref q1, .ref q6, .ref q2, .int (stwF3_1.1 0), .int (stwF3_1.1 1)])), (q1, .inl (cy 1, 1024, .inl (stwF3_1.2.1 0))), (q2, .inl (cy 2, 24, .inr (.inl (stwF3_1.2.2.2 0)))), (q3, .inl (cy 1, 3000, .inl (stwF3_1.2.1 1))), (q4, .inl (cy 1, 3000, .inl (stwF3_1.2.1 2))), (q5, .inl (cy 1, 3000, .inl (stwF3_1.2.1 3))), (q6, .inl (cy 1, 3000, .inl (stwF3_1.2.1 4)))] H := hP
  have hD : va_D A [(h0, .inr (1, [.int 3000, .ref q3, .ref q4, .ref q5, .ref q1, .ref q6, .ref q2, .int (stwF3_1.1 0), .int (stwF3_1.1 1)])), (q1, .inl (cy 1, 1024, .inl (stwF3_1.2.1 0))), (q2, .inl (cy 2, 24, .inr (.inl (stwF3_1.2.2.2 0)))), (q3, .inl (cy 1, 3000, .inl (stwF3_1.2.1 1))), (q4, .inl (cy 1, 3000, .inl (stwF3_1.2.1 2))), (q5, .inl (cy 1, 3000, .inl (stwF3_1.2.1 3))), (q6, .inl (cy 1, 3000, .inl (stwF3_1.2.1 4)))] := hD
  refine lv_pop hx hb dX1_init_77 rfl ?_
  refine lv_aload_n hx hb dX1_init_78 rfl (lv_at hl 0 rfl) ?_
  refine lv_iconst (v := 1) hx hb dX1_init_79 (by decide) ?_
  refine lv_iconst (v := 0) hx hb dX1_init_80 (by decide) ?_
  refine lv_iconst (v := 0) hx hb dX1_init_81 (by decide) ?_
  refine call_Vc (q := (RX1, TX1, 9)) (n := 3) (As := [.int 1, .int 0, .int 0]) (rv := some (.int 1)) (w := wF3 (fun k => ([h0, q1, q2, q3, q4, q5, q6] : List Nat).getD k 0) cy stwF3_1) (w' := wF3 (fun k => ([h0, q1, q2, q3, q4, q5, q6] : List Nat).getD k 0) cy stwF3_2) 0 1 F K E hA (⟨hP, hD, hS⟩ : ZG D (wF3 (fun k => ([h0, q1, q2, q3, q4, q5, q6] : List Nat).getD k 0) cy stwF3_1) A s H locs) (c_X1_joined_wF3 (l := l) (D := D) (cy := cy) (ee := ee) (ad := (fun k => ([h0, q1, q2, q3, q4, q5, q6] : List Nat).getD k 0)) hstwF3_2) ⟨wd195, wd1367, wd196, wd197, wd17⟩ (by decide +kernel) rfl rfl ⟨Nat.le_of_ble_eq_true rfl, Nat.le_of_ble_eq_true rfl⟩ ⟨Nat.le_of_ble_eq_true rfl, Nat.le_of_ble_eq_true rfl⟩ rfl hl.1 (Nat.le_of_ble_eq_true rfl) dX1_init_82 (fun H locs Z => ?_)
  obtain ⟨hP, hD, hS⟩ := Z
  have hP : va_P D vwCl [(h0, .inr (1, [.int 3000, .ref q3, .ref q4, .ref q5, .ref q1, .ref q6, .ref q2, .int (stwF3_2.1 0), .int (stwF3_2.1 1)])), (q1, .inl (cy 1, 1024, .inl (stwF3_2.2.1 0))), (q2, .inl (cy 2, 24, .inr (.inl (stwF3_2.2.2.2 0)))), (q3, .inl (cy 1, 3000, .inl (stwF3_2.2.1 1))), (q4, .inl (cy 1, 3000, .inl (stwF3_2.2.1 2))), (q5, .inl (cy 1, 3000, .inl (stwF3_2.2.1 3))), (q6, .inl (cy 1, 3000, .inl (stwF3_2.2.1 4)))] H := hP
  have hD : va_D A [(h0, .inr (1, [.int 3000, .ref q3, .ref q4, .ref q5, .ref q1, .ref q6, .ref q2, .int (stwF3_2.1 0), .int (stwF3_2.1 1)])), (q1, .inl (cy 1, 1024, .inl (stwF3_2.2.1 0))), (q2, .inl (cy 2, 24, .inr (.inl (stwF3_2.2.2.2 0)))), (q3, .inl (cy 1, 3000, .inl (stwF3_2.2.1 1))), (q4, .inl (cy 1, 3000, .inl (stwF3_2.2.1 2))), (q5, .inl (cy 1, 3000, .inl (stwF3_2.2.1 3))), (q6, .inl (cy 1, 3000, .inl (stwF3_2.2.1 4)))] := hD
  refine lv_pop hx hb dX1_init_85 rfl ?_
  refine W.widen (k := 6) (n := 13048) (Nat.le_of_ble_eq_true rfl) (Nat.le_of_ble_eq_true rfl) ?_
  exact ret_I (fun k => ([h0, q1, q2, q3, q4, q5, q6] : List Nat).getD k 0) F hr hk rfl hP hD hS dX1_init_86


theorem wd1368 : Cond.methodLink RX7 9 yJ9_max_7cf53 ∈ Gw := gT1 (List.mem_of_getElem? (i := 128) rfl) rfl
set_option maxRecDepth 100000 in
set_option maxHeartbeats 8000000 in
theorem i_T0 {l : Launch} {D : va_G} {cy : Nat → ClassId} {ee : EE} {h0 : Nat} : CI l yX7_init cX7_init 2 1 24 5 15000 D cy ee [(h0, .inr (7, [.int 0, .null, .null, .null, .null, .null, .int 0]))] h0 (fun u => [((u 0), .inr (7, [.int 3000, .ref (u 1), .ref (u 2), .ref (u 3), .ref (u 4), .ref (u 5), .int 0])), ((u 1), .inl (cy 1, 3000, .inl (fun _ => 0))), ((u 2), .inl (cy 1, 3000, .inl (fun _ => 0))), ((u 3), .inl (cy 1, 3000, .inl (fun _ => 0))), ((u 4), .inl (cy 1, 3000, .inl (fun _ => 0))), ((u 5), .inl (cy 1, 3000, .inl (fun _ => 0)))]) [.ref h0, .int 3000] := by
  refine CI.of (by decide +kernel) (Nat.le_of_ble_eq_true rfl) ?_
  intro p e s m args below meth c A F hr hk hin K E I hA hP hD hS ls hl
  have hl : lv_has ls 2 [(0, .ref h0), (1, .int 3000)] := hl
  have hx := F.1
  have hb := F.2.1
  have hin : meth.name = "<init>" := hin
  refine lv_aload_n hx hb dX7_init_0 rfl (lv_at hl 0 rfl) ?_
  refine W.objInit hx hb F.2.2.2.1 (F.2.2.2.2 _ (List.mem_cons_of_mem _ oi_X7)) (F.2.2.2.2 _ (List.mem_cons_of_mem _ oi_w1)) (F.2.2.2.2 _ (List.mem_cons_of_mem _ oi_w2)) rfl (by rw [F.2.2.1]; exact hl.1) rfl dX7_init_1 (Nat.le_of_ble_eq_true rfl) (Nat.le_of_ble_eq_true rfl) ?_
  refine W.eq (g2 := F0 m 4 ls []) rfl ?_
  refine lv_aload_n hx hb dX7_init_4 rfl (lv_at hl 0 rfl) ?_
  refine lv_iload_n hx hb dX7_init_5 rfl (lv_at hl 1 rfl) ?_
  refine lv_iconst (v := 0) hx hb dX7_init_6 (by decide) ?_
  refine va_mmax F.1 F.2.1 (F.2.2.1.trans hl.1.symm) F.2.2.2.1 (F.2.2.2.2 _ (List.mem_cons_of_mem _ wd1368)) (F.2.2.2.2 _ (List.mem_cons_of_mem _ mth_w1)) (F.2.2.2.2 _ (List.mem_cons_of_mem _ mth_w3)) (F.2.2.2.2 _ (List.mem_cons_of_mem _ mth_w4)) (Nat.le_of_ble_eq_true rfl) (Nat.le_of_ble_eq_true rfl) (Nat.le_of_ble_eq_true rfl) (Nat.le_of_ble_eq_true rfl) dX7_init_7 ?_
  refine W.eq (g2 := F0 m 10 ls [.int 3000, .ref h0]) rfl ?_
  refine va_putF (D := D) (ci := 7) (v := .int 3000) (ty := .int) (C := RX7) (T := TX7) (N := 7) F.1 F.2.1 F.2.2.2.2 (fun w h => List.mem_cons_of_mem _ (inG_X7 w h)) tyX7 tyX7_ok nmX7 F.2.2.2.1 K hP hD hS 0 rfl rfl 0 (by decide) (F.2.2.2.2 _ (List.mem_cons_of_mem _ wd50)) (fun _ h => h) rfl hin rfl (by decide +kernel) rfl rfl (Nat.le_of_ble_eq_true rfl) dX7_init_10 (fun H locs hP hD hS => ?_)
  have hP : va_P D vwCl [(h0, .inr (7, [.int 3000, .null, .null, .null, .null, .null, .int 0]))] H := hP
  have hD : va_D A [(h0, .inr (7, [.int 3000, .null, .null, .null, .null, .null, .int 0]))] := hD
  refine lv_aload_n hx hb dX7_init_13 rfl (lv_at hl 0 rfl) ?_
  refine lv_aload_n hx hb dX7_init_14 rfl (lv_at hl 0 rfl) ?_
  refine va_get (D := D) (ci := 7) (v := .int 3000) (C := RX7) (T := TX7) (N := 7) F.1 F.2.1 F.2.2.2.2 (fun w h => List.mem_cons_of_mem _ (inG_X7 w h)) F.2.2.2.1 K hP 0 rfl rfl 0 (by decide) (F.2.2.2.2 _ (List.mem_cons_of_mem _ wd50)) (fun _ h => h) rfl dX7_init_15 ?_
  refine nw_i F K hP hD hS hA (by decide) (N := 3000) (by decide +kernel) (Nat.le_of_ble_eq_true rfl) (Nat.le_of_ble_eq_true rfl) (Nat.le_of_ble_eq_true rfl) dX7_init_18 (fun q1 H hP hD hS => ?_)
  have hP : va_P D vwCl [(h0, .inr (7, [.int 3000, .null, .null, .null, .null, .null, .int 0])), (q1, .inl (cy 1, 3000, .inl (fun _ => 0)))] H := hP
  have hD : va_D A [(h0, .inr (7, [.int 3000, .null, .null, .null, .null, .null, .int 0])), (q1, .inl (cy 1, 3000, .inl (fun _ => 0)))] := hD
  refine va_putF (D := D) (ci := 7) (v := .ref q1) (ty := .array .int) (C := RX7) (T := TX7) (N := 7) F.1 F.2.1 F.2.2.2.2 (fun w h => List.mem_cons_of_mem _ (inG_X7 w h)) tyX7 tyX7_ok nmX7 F.2.2.2.1 K hP hD hS 0 rfl rfl 1 (by decide) (F.2.2.2.2 _ (List.mem_cons_of_mem _ wd51)) (fun _ h => h) rfl hin rfl (by decide +kernel) rfl rfl (Nat.le_of_ble_eq_true rfl) dX7_init_20 (fun H locs hP hD hS => ?_)
  have hP : va_P D vwCl [(h0, .inr (7, [.int 3000, .ref q1, .null, .null, .null, .null, .int 0])), (q1, .inl (cy 1, 3000, .inl (fun _ => 0)))] H := hP
  have hD : va_D A [(h0, .inr (7, [.int 3000, .ref q1, .null, .null, .null, .null, .int 0])), (q1, .inl (cy 1, 3000, .inl (fun _ => 0)))] := hD
  refine lv_aload_n hx hb dX7_init_23 rfl (lv_at hl 0 rfl) ?_
  refine lv_aload_n hx hb dX7_init_24 rfl (lv_at hl 0 rfl) ?_
  refine va_get (D := D) (ci := 7) (v := .int 3000) (C := RX7) (T := TX7) (N := 7) F.1 F.2.1 F.2.2.2.2 (fun w h => List.mem_cons_of_mem _ (inG_X7 w h)) F.2.2.2.1 K hP 0 rfl rfl 0 (by decide) (F.2.2.2.2 _ (List.mem_cons_of_mem _ wd50)) (fun _ h => h) rfl dX7_init_25 ?_
  refine nw_i F K hP hD hS hA (by decide) (N := 3000) (by decide +kernel) (Nat.le_of_ble_eq_true rfl) (Nat.le_of_ble_eq_true rfl) (Nat.le_of_ble_eq_true rfl) dX7_init_28 (fun q2 H hP hD hS => ?_)
  have hP : va_P D vwCl [(h0, .inr (7, [.int 3000, .ref q1, .null, .null, .null, .null, .int 0])), (q1, .inl (cy 1, 3000, .inl (fun _ => 0))), (q2, .inl (cy 1, 3000, .inl (fun _ => 0)))] H := hP
  have hD : va_D A [(h0, .inr (7, [.int 3000, .ref q1, .null, .null, .null, .null, .int 0])), (q1, .inl (cy 1, 3000, .inl (fun _ => 0))), (q2, .inl (cy 1, 3000, .inl (fun _ => 0)))] := hD
  refine va_putF (D := D) (ci := 7) (v := .ref q2) (ty := .array .int) (C := RX7) (T := TX7) (N := 7) F.1 F.2.1 F.2.2.2.2 (fun w h => List.mem_cons_of_mem _ (inG_X7 w h)) tyX7 tyX7_ok nmX7 F.2.2.2.1 K hP hD hS 0 rfl rfl 2 (by decide) (F.2.2.2.2 _ (List.mem_cons_of_mem _ wd52)) (fun _ h => h) rfl hin rfl (by decide +kernel) rfl rfl (Nat.le_of_ble_eq_true rfl) dX7_init_30 (fun H locs hP hD hS => ?_)
  have hP : va_P D vwCl [(h0, .inr (7, [.int 3000, .ref q1, .ref q2, .null, .null, .null, .int 0])), (q1, .inl (cy 1, 3000, .inl (fun _ => 0))), (q2, .inl (cy 1, 3000, .inl (fun _ => 0)))] H := hP
  have hD : va_D A [(h0, .inr (7, [.int 3000, .ref q1, .ref q2, .null, .null, .null, .int 0])), (q1, .inl (cy 1, 3000, .inl (fun _ => 0))), (q2, .inl (cy 1, 3000, .inl (fun _ => 0)))] := hD
  refine lv_aload_n hx hb dX7_init_33 rfl (lv_at hl 0 rfl) ?_
  refine lv_aload_n hx hb dX7_init_34 rfl (lv_at hl 0 rfl) ?_
  refine va_get (D := D) (ci := 7) (v := .int 3000) (C := RX7) (T := TX7) (N := 7) F.1 F.2.1 F.2.2.2.2 (fun w h => List.mem_cons_of_mem _ (inG_X7 w h)) F.2.2.2.1 K hP 0 rfl rfl 0 (by decide) (F.2.2.2.2 _ (List.mem_cons_of_mem _ wd50)) (fun _ h => h) rfl dX7_init_35 ?_
  refine nw_i F K hP hD hS hA (by decide) (N := 3000) (by decide +kernel) (Nat.le_of_ble_eq_true rfl) (Nat.le_of_ble_eq_true rfl) (Nat.le_of_ble_eq_true rfl) dX7_init_38 (fun q3 H hP hD hS => ?_)
  have hP : va_P D vwCl [(h0, .inr (7, [.int 3000, .ref q1, .ref q2, .null, .null, .null, .int 0])), (q1, .inl (cy 1, 3000, .inl (fun _ => 0))), (q2, .inl (cy 1, 3000, .inl (fun _ => 0))), (q3, .inl (cy 1, 3000, .inl (fun _ => 0)))] H := hP
  have hD : va_D A [(h0, .inr (7, [.int 3000, .ref q1, .ref q2, .null, .null, .null, .int 0])), (q1, .inl (cy 1, 3000, .inl (fun _ => 0))), (q2, .inl (cy 1, 3000, .inl (fun _ => 0))), (q3, .inl (cy 1, 3000, .inl (fun _ => 0)))] := hD
  refine va_putF (D := D) (ci := 7) (v := .ref q3) (ty := .array .int) (C := RX7) (T := TX7) (N := 7) F.1 F.2.1 F.2.2.2.2 (fun w h => List.mem_cons_of_mem _ (inG_X7 w h)) tyX7 tyX7_ok nmX7 F.2.2.2.1 K hP hD hS 0 rfl rfl 3 (by decide) (F.2.2.2.2 _ (List.mem_cons_of_mem _ wd53)) (fun _ h => h) rfl hin rfl (by decide +kernel) rfl rfl (Nat.le_of_ble_eq_true rfl) dX7_init_40 (fun H locs hP hD hS => ?_)
  have hP : va_P D vwCl [(h0, .inr (7, [.int 3000, .ref q1, .ref q2, .ref q3, .null, .null, .int 0])), (q1, .inl (cy 1, 3000, .inl (fun _ => 0))), (q2, .inl (cy 1, 3000, .inl (fun _ => 0))), (q3, .inl (cy 1, 3000, .inl (fun _ => 0)))] H := hP
  have hD : va_D A [(h0, .inr (7, [.int 3000, .ref q1, .ref q2, .ref q3, .null, .null, .int 0])), (q1, .inl (cy 1, 3000, .inl (fun _ => 0))), (q2, .inl (cy 1, 3000, .inl (fun _ => 0))), (q3, .inl (cy 1, 3000, .inl (fun _ => 0)))] := hD
  refine lv_aload_n hx hb dX7_init_43 rfl (lv_at hl 0 rfl) ?_
  refine lv_aload_n hx hb dX7_init_44 rfl (lv_at hl 0 rfl) ?_
  refine va_get (D := D) (ci := 7) (v := .int 3000) (C := RX7) (T := TX7) (N := 7) F.1 F.2.1 F.2.2.2.2 (fun w h => List.mem_cons_of_mem _ (inG_X7 w h)) F.2.2.2.1 K hP 0 rfl rfl 0 (by decide) (F.2.2.2.2 _ (List.mem_cons_of_mem _ wd50)) (fun _ h => h) rfl dX7_init_45 ?_
  refine nw_i F K hP hD hS hA (by decide) (N := 3000) (by decide +kernel) (Nat.le_of_ble_eq_true rfl) (Nat.le_of_ble_eq_true rfl) (Nat.le_of_ble_eq_true rfl) dX7_init_48 (fun q4 H hP hD hS => ?_)
  have hP : va_P D vwCl [(h0, .inr (7, [.int 3000, .ref q1, .ref q2, .ref q3, .null, .null, .int 0])), (q1, .inl (cy 1, 3000, .inl (fun _ => 0))), (q2, .inl (cy 1, 3000, .inl (fun _ => 0))), (q3, .inl (cy 1, 3000, .inl (fun _ => 0))), (q4, .inl (cy 1, 3000, .inl (fun _ => 0)))] H := hP
  have hD : va_D A [(h0, .inr (7, [.int 3000, .ref q1, .ref q2, .ref q3, .null, .null, .int 0])), (q1, .inl (cy 1, 3000, .inl (fun _ => 0))), (q2, .inl (cy 1, 3000, .inl (fun _ => 0))), (q3, .inl (cy 1, 3000, .inl (fun _ => 0))), (q4, .inl (cy 1, 3000, .inl (fun _ => 0)))] := hD
  refine va_putF (D := D) (ci := 7) (v := .ref q4) (ty := .array .int) (C := RX7) (T := TX7) (N := 7) F.1 F.2.1 F.2.2.2.2 (fun w h => List.mem_cons_of_mem _ (inG_X7 w h)) tyX7 tyX7_ok nmX7 F.2.2.2.1 K hP hD hS 0 rfl rfl 4 (by decide) (F.2.2.2.2 _ (List.mem_cons_of_mem _ wd54)) (fun _ h => h) rfl hin rfl (by decide +kernel) rfl rfl (Nat.le_of_ble_eq_true rfl) dX7_init_50 (fun H locs hP hD hS => ?_)
  have hP : va_P D vwCl [(h0, .inr (7, [.int 3000, .ref q1, .ref q2, .ref q3, .ref q4, .null, .int 0])), (q1, .inl (cy 1, 3000, .inl (fun _ => 0))), (q2, .inl (cy 1, 3000, .inl (fun _ => 0))), (q3, .inl (cy 1, 3000, .inl (fun _ => 0))), (q4, .inl (cy 1, 3000, .inl (fun _ => 0)))] H := hP
  have hD : va_D A [(h0, .inr (7, [.int 3000, .ref q1, .ref q2, .ref q3, .ref q4, .null, .int 0])), (q1, .inl (cy 1, 3000, .inl (fun _ => 0))), (q2, .inl (cy 1, 3000, .inl (fun _ => 0))), (q3, .inl (cy 1, 3000, .inl (fun _ => 0))), (q4, .inl (cy 1, 3000, .inl (fun _ => 0)))] := hD
  refine lv_aload_n hx hb dX7_init_53 rfl (lv_at hl 0 rfl) ?_
  refine lv_aload_n hx hb dX7_init_54 rfl (lv_at hl 0 rfl) ?_
  refine va_get (D := D) (ci := 7) (v := .int 3000) (C := RX7) (T := TX7) (N := 7) F.1 F.2.1 F.2.2.2.2 (fun w h => List.mem_cons_of_mem _ (inG_X7 w h)) F.2.2.2.1 K hP 0 rfl rfl 0 (by decide) (F.2.2.2.2 _ (List.mem_cons_of_mem _ wd50)) (fun _ h => h) rfl dX7_init_55 ?_
  refine nw_i F K hP hD hS hA (by decide) (N := 3000) (by decide +kernel) (Nat.le_of_ble_eq_true rfl) (Nat.le_of_ble_eq_true rfl) (Nat.le_of_ble_eq_true rfl) dX7_init_58 (fun q5 H hP hD hS => ?_)
  have hP : va_P D vwCl [(h0, .inr (7, [.int 3000, .ref q1, .ref q2, .ref q3, .ref q4, .null, .int 0])), (q1, .inl (cy 1, 3000, .inl (fun _ => 0))), (q2, .inl (cy 1, 3000, .inl (fun _ => 0))), (q3, .inl (cy 1, 3000, .inl (fun _ => 0))), (q4, .inl (cy 1, 3000, .inl (fun _ => 0))), (q5, .inl (cy 1, 3000, .inl (fun _ => 0)))] H := hP
  have hD : va_D A [(h0, .inr (7, [.int 3000, .ref q1, .ref q2, .ref q3, .ref q4, .null, .int 0])), (q1, .inl (cy 1, 3000, .inl (fun _ => 0))), (q2, .inl (cy 1, 3000, .inl (fun _ => 0))), (q3, .inl (cy 1, 3000, .inl (fun _ => 0))), (q4, .inl (cy 1, 3000, .inl (fun _ => 0))), (q5, .inl (cy 1, 3000, .inl (fun _ => 0)))] := hD
  refine va_putF (D := D) (ci := 7) (v := .ref q5) (ty := .array .int) (C := RX7) (T := TX7) (N := 7) F.1 F.2.1 F.2.2.2.2 (fun w h => List.mem_cons_of_mem _ (inG_X7 w h)) tyX7 tyX7_ok nmX7 F.2.2.2.1 K hP hD hS 0 rfl rfl 5 (by decide) (F.2.2.2.2 _ (List.mem_cons_of_mem _ wd55)) (fun _ h => h) rfl hin rfl (by decide +kernel) rfl rfl (Nat.le_of_ble_eq_true rfl) dX7_init_60 (fun H locs hP hD hS => ?_)
  have hP : va_P D vwCl [(h0, .inr (7, [.int 3000, .ref q1, .ref q2, .ref q3, .ref q4, .ref q5, .int 0])), (q1, .inl (cy 1, 3000, .inl (fun _ => 0))), (q2, .inl (cy 1, 3000, .inl (fun _ => 0))), (q3, .inl (cy 1, 3000, .inl (fun _ => 0))), (q4, .inl (cy 1, 3000, .inl (fun _ => 0))), (q5, .inl (cy 1, 3000, .inl (fun _ => 0)))] H := hP
  have hD : va_D A [(h0, .inr (7, [.int 3000, .ref q1, .ref q2, .ref q3, .ref q4, .ref q5, .int 0])), (q1, .inl (cy 1, 3000, .inl (fun _ => 0))), (q2, .inl (cy 1, 3000, .inl (fun _ => 0))), (q3, .inl (cy 1, 3000, .inl (fun _ => 0))), (q4, .inl (cy 1, 3000, .inl (fun _ => 0))), (q5, .inl (cy 1, 3000, .inl (fun _ => 0)))] := hD
  refine W.widen (k := 5) (n := 15000) (Nat.le_of_ble_eq_true rfl) (Nat.le_of_ble_eq_true rfl) ?_
  exact ret_I (fun k => ([h0, q1, q2, q3, q4, q5] : List Nat).getD k 0) F hr hk rfl hP hD hS dX7_init_63



set_option maxRecDepth 100000 in
set_option maxHeartbeats 8000000 in
theorem i_T1 {l : Launch} {D : va_G} {cy : Nat → ClassId} {ee : EE} {h0 : Nat} : CI l yX7_init cX7_init 2 1 24 5 150135 D cy ee [(h0, .inr (7, [.int 0, .null, .null, .null, .null, .null, .int 0]))] h0 (fun u => [((u 0), .inr (7, [.int 30027, .ref (u 1), .ref (u 2), .ref (u 3), .ref (u 4), .ref (u 5), .int 0])), ((u 1), .inl (cy 1, 30027, .inl (fun _ => 0))), ((u 2), .inl (cy 1, 30027, .inl (fun _ => 0))), ((u 3), .inl (cy 1, 30027, .inl (fun _ => 0))), ((u 4), .inl (cy 1, 30027, .inl (fun _ => 0))), ((u 5), .inl (cy 1, 30027, .inl (fun _ => 0)))]) [.ref h0, .int 30027] := by
  refine CI.of (by decide +kernel) (Nat.le_of_ble_eq_true rfl) ?_
  intro p e s m args below meth c A F hr hk hin K E I hA hP hD hS ls hl
  have hl : lv_has ls 2 [(0, .ref h0), (1, .int 30027)] := hl
  have hx := F.1
  have hb := F.2.1
  have hin : meth.name = "<init>" := hin
  refine lv_aload_n hx hb dX7_init_0 rfl (lv_at hl 0 rfl) ?_
  refine W.objInit hx hb F.2.2.2.1 (F.2.2.2.2 _ (List.mem_cons_of_mem _ oi_X7)) (F.2.2.2.2 _ (List.mem_cons_of_mem _ oi_w1)) (F.2.2.2.2 _ (List.mem_cons_of_mem _ oi_w2)) rfl (by rw [F.2.2.1]; exact hl.1) rfl dX7_init_1 (Nat.le_of_ble_eq_true rfl) (Nat.le_of_ble_eq_true rfl) ?_
  refine W.eq (g2 := F0 m 4 ls []) rfl ?_
  refine lv_aload_n hx hb dX7_init_4 rfl (lv_at hl 0 rfl) ?_
  refine lv_iload_n hx hb dX7_init_5 rfl (lv_at hl 1 rfl) ?_
  refine lv_iconst (v := 0) hx hb dX7_init_6 (by decide) ?_
  refine va_mmax F.1 F.2.1 (F.2.2.1.trans hl.1.symm) F.2.2.2.1 (F.2.2.2.2 _ (List.mem_cons_of_mem _ wd1368)) (F.2.2.2.2 _ (List.mem_cons_of_mem _ mth_w1)) (F.2.2.2.2 _ (List.mem_cons_of_mem _ mth_w3)) (F.2.2.2.2 _ (List.mem_cons_of_mem _ mth_w4)) (Nat.le_of_ble_eq_true rfl) (Nat.le_of_ble_eq_true rfl) (Nat.le_of_ble_eq_true rfl) (Nat.le_of_ble_eq_true rfl) dX7_init_7 ?_
  refine W.eq (g2 := F0 m 10 ls [.int 30027, .ref h0]) rfl ?_
  refine va_putF (D := D) (ci := 7) (v := .int 30027) (ty := .int) (C := RX7) (T := TX7) (N := 7) F.1 F.2.1 F.2.2.2.2 (fun w h => List.mem_cons_of_mem _ (inG_X7 w h)) tyX7 tyX7_ok nmX7 F.2.2.2.1 K hP hD hS 0 rfl rfl 0 (by decide) (F.2.2.2.2 _ (List.mem_cons_of_mem _ wd50)) (fun _ h => h) rfl hin rfl (by decide +kernel) rfl rfl (Nat.le_of_ble_eq_true rfl) dX7_init_10 (fun H locs hP hD hS => ?_)
  have hP : va_P D vwCl [(h0, .inr (7, [.int 30027, .null, .null, .null, .null, .null, .int 0]))] H := hP
  have hD : va_D A [(h0, .inr (7, [.int 30027, .null, .null, .null, .null, .null, .int 0]))] := hD
  refine lv_aload_n hx hb dX7_init_13 rfl (lv_at hl 0 rfl) ?_
  refine lv_aload_n hx hb dX7_init_14 rfl (lv_at hl 0 rfl) ?_
  refine va_get (D := D) (ci := 7) (v := .int 30027) (C := RX7) (T := TX7) (N := 7) F.1 F.2.1 F.2.2.2.2 (fun w h => List.mem_cons_of_mem _ (inG_X7 w h)) F.2.2.2.1 K hP 0 rfl rfl 0 (by decide) (F.2.2.2.2 _ (List.mem_cons_of_mem _ wd50)) (fun _ h => h) rfl dX7_init_15 ?_
  refine nw_i F K hP hD hS hA (by decide) (N := 30027) (by decide +kernel) (Nat.le_of_ble_eq_true rfl) (Nat.le_of_ble_eq_true rfl) (Nat.le_of_ble_eq_true rfl) dX7_init_18 (fun q1 H hP hD hS => ?_)
  have hP : va_P D vwCl [(h0, .inr (7, [.int 30027, .null, .null, .null, .null, .null, .int 0])), (q1, .inl (cy 1, 30027, .inl (fun _ => 0)))] H := hP
  have hD : va_D A [(h0, .inr (7, [.int 30027, .null, .null, .null, .null, .null, .int 0])), (q1, .inl (cy 1, 30027, .inl (fun _ => 0)))] := hD
  refine va_putF (D := D) (ci := 7) (v := .ref q1) (ty := .array .int) (C := RX7) (T := TX7) (N := 7) F.1 F.2.1 F.2.2.2.2 (fun w h => List.mem_cons_of_mem _ (inG_X7 w h)) tyX7 tyX7_ok nmX7 F.2.2.2.1 K hP hD hS 0 rfl rfl 1 (by decide) (F.2.2.2.2 _ (List.mem_cons_of_mem _ wd51)) (fun _ h => h) rfl hin rfl (by decide +kernel) rfl rfl (Nat.le_of_ble_eq_true rfl) dX7_init_20 (fun H locs hP hD hS => ?_)
  have hP : va_P D vwCl [(h0, .inr (7, [.int 30027, .ref q1, .null, .null, .null, .null, .int 0])), (q1, .inl (cy 1, 30027, .inl (fun _ => 0)))] H := hP
  have hD : va_D A [(h0, .inr (7, [.int 30027, .ref q1, .null, .null, .null, .null, .int 0])), (q1, .inl (cy 1, 30027, .inl (fun _ => 0)))] := hD
  refine lv_aload_n hx hb dX7_init_23 rfl (lv_at hl 0 rfl) ?_
  refine lv_aload_n hx hb dX7_init_24 rfl (lv_at hl 0 rfl) ?_
  refine va_get (D := D) (ci := 7) (v := .int 30027) (C := RX7) (T := TX7) (N := 7) F.1 F.2.1 F.2.2.2.2 (fun w h => List.mem_cons_of_mem _ (inG_X7 w h)) F.2.2.2.1 K hP 0 rfl rfl 0 (by decide) (F.2.2.2.2 _ (List.mem_cons_of_mem _ wd50)) (fun _ h => h) rfl dX7_init_25 ?_
  refine nw_i F K hP hD hS hA (by decide) (N := 30027) (by decide +kernel) (Nat.le_of_ble_eq_true rfl) (Nat.le_of_ble_eq_true rfl) (Nat.le_of_ble_eq_true rfl) dX7_init_28 (fun q2 H hP hD hS => ?_)
  have hP : va_P D vwCl [(h0, .inr (7, [.int 30027, .ref q1, .null, .null, .null, .null, .int 0])), (q1, .inl (cy 1, 30027, .inl (fun _ => 0))), (q2, .inl (cy 1, 30027, .inl (fun _ => 0)))] H := hP
  have hD : va_D A [(h0, .inr (7, [.int 30027, .ref q1, .null, .null, .null, .null, .int 0])), (q1, .inl (cy 1, 30027, .inl (fun _ => 0))), (q2, .inl (cy 1, 30027, .inl (fun _ => 0)))] := hD
  refine va_putF (D := D) (ci := 7) (v := .ref q2) (ty := .array .int) (C := RX7) (T := TX7) (N := 7) F.1 F.2.1 F.2.2.2.2 (fun w h => List.mem_cons_of_mem _ (inG_X7 w h)) tyX7 tyX7_ok nmX7 F.2.2.2.1 K hP hD hS 0 rfl rfl 2 (by decide) (F.2.2.2.2 _ (List.mem_cons_of_mem _ wd52)) (fun _ h => h) rfl hin rfl (by decide +kernel) rfl rfl (Nat.le_of_ble_eq_true rfl) dX7_init_30 (fun H locs hP hD hS => ?_)
  have hP : va_P D vwCl [(h0, .inr (7, [.int 30027, .ref q1, .ref q2, .null, .null, .null, .int 0])), (q1, .inl (cy 1, 30027, .inl (fun _ => 0))), (q2, .inl (cy 1, 30027, .inl (fun _ => 0)))] H := hP
  have hD : va_D A [(h0, .inr (7, [.int 30027, .ref q1, .ref q2, .null, .null, .null, .int 0])), (q1, .inl (cy 1, 30027, .inl (fun _ => 0))), (q2, .inl (cy 1, 30027, .inl (fun _ => 0)))] := hD
  refine lv_aload_n hx hb dX7_init_33 rfl (lv_at hl 0 rfl) ?_
  refine lv_aload_n hx hb dX7_init_34 rfl (lv_at hl 0 rfl) ?_
  refine va_get (D := D) (ci := 7) (v := .int 30027) (C := RX7) (T := TX7) (N := 7) F.1 F.2.1 F.2.2.2.2 (fun w h => List.mem_cons_of_mem _ (inG_X7 w h)) F.2.2.2.1 K hP 0 rfl rfl 0 (by decide) (F.2.2.2.2 _ (List.mem_cons_of_mem _ wd50)) (fun _ h => h) rfl dX7_init_35 ?_
  refine nw_i F K hP hD hS hA (by decide) (N := 30027) (by decide +kernel) (Nat.le_of_ble_eq_true rfl) (Nat.le_of_ble_eq_true rfl) (Nat.le_of_ble_eq_true rfl) dX7_init_38 (fun q3 H hP hD hS => ?_)
  have hP : va_P D vwCl [(h0, .inr (7, [.int 30027, .ref q1, .ref q2, .null, .null, .null, .int 0])), (q1, .inl (cy 1, 30027, .inl (fun _ => 0))), (q2, .inl (cy 1, 30027, .inl (fun _ => 0))), (q3, .inl (cy 1, 30027, .inl (fun _ => 0)))] H := hP
  have hD : va_D A [(h0, .inr (7, [.int 30027, .ref q1, .ref q2, .null, .null, .null, .int 0])), (q1, .inl (cy 1, 30027, .inl (fun _ => 0))), (q2, .inl (cy 1, 30027, .inl (fun _ => 0))), (q3, .inl (cy 1, 30027, .inl (fun _ => 0)))] := hD
  refine va_putF (D := D) (ci := 7) (v := .ref q3) (ty := .array .int) (C := RX7) (T := TX7) (N := 7) F.1 F.2.1 F.2.2.2.2 (fun w h => List.mem_cons_of_mem _ (inG_X7 w h)) tyX7 tyX7_ok nmX7 F.2.2.2.1 K hP hD hS 0 rfl rfl 3 (by decide) (F.2.2.2.2 _ (List.mem_cons_of_mem _ wd53)) (fun _ h => h) rfl hin rfl (by decide +kernel) rfl rfl (Nat.le_of_ble_eq_true rfl) dX7_init_40 (fun H locs hP hD hS => ?_)
  have hP : va_P D vwCl [(h0, .inr (7, [.int 30027, .ref q1, .ref q2, .ref q3, .null, .null, .int 0])), (q1, .inl (cy 1, 30027, .inl (fun _ => 0))), (q2, .inl (cy 1, 30027, .inl (fun _ => 0))), (q3, .inl (cy 1, 30027, .inl (fun _ => 0)))] H := hP
  have hD : va_D A [(h0, .inr (7, [.int 30027, .ref q1, .ref q2, .ref q3, .null, .null, .int 0])), (q1, .inl (cy 1, 30027, .inl (fun _ => 0))), (q2, .inl (cy 1, 30027, .inl (fun _ => 0))), (q3, .inl (cy 1, 30027, .inl (fun _ => 0)))] := hD
  refine lv_aload_n hx hb dX7_init_43 rfl (lv_at hl 0 rfl) ?_
  refine lv_aload_n hx hb dX7_init_44 rfl (lv_at hl 0 rfl) ?_
  refine va_get (D := D) (ci := 7) (v := .int 30027) (C := RX7) (T := TX7) (N := 7) F.1 F.2.1 F.2.2.2.2 (fun w h => List.mem_cons_of_mem _ (inG_X7 w h)) F.2.2.2.1 K hP 0 rfl rfl 0 (by decide) (F.2.2.2.2 _ (List.mem_cons_of_mem _ wd50)) (fun _ h => h) rfl dX7_init_45 ?_
  refine nw_i F K hP hD hS hA (by decide) (N := 30027) (by decide +kernel) (Nat.le_of_ble_eq_true rfl) (Nat.le_of_ble_eq_true rfl) (Nat.le_of_ble_eq_true rfl) dX7_init_48 (fun q4 H hP hD hS => ?_)
  have hP : va_P D vwCl [(h0, .inr (7, [.int 30027, .ref q1, .ref q2, .ref q3, .null, .null, .int 0])), (q1, .inl (cy 1, 30027, .inl (fun _ => 0))), (q2, .inl (cy 1, 30027, .inl (fun _ => 0))), (q3, .inl (cy 1, 30027, .inl (fun _ => 0))), (q4, .inl (cy 1, 30027, .inl (fun _ => 0)))] H := hP
  have hD : va_D A [(h0, .inr (7, [.int 30027, .ref q1, .ref q2, .ref q3, .null, .null, .int 0])), (q1, .inl (cy 1, 30027, .inl (fun _ => 0))), (q2, .inl (cy 1, 30027, .inl (fun _ => 0))), (q3, .inl (cy 1, 30027, .inl (fun _ => 0))), (q4, .inl (cy 1, 30027, .inl (fun _ => 0)))] := hD
  refine va_putF (D := D) (ci := 7) (v := .ref q4) (ty := .array .int) (C := RX7) (T := TX7) (N := 7) F.1 F.2.1 F.2.2.2.2 (fun w h => List.mem_cons_of_mem _ (inG_X7 w h)) tyX7 tyX7_ok nmX7 F.2.2.2.1 K hP hD hS 0 rfl rfl 4 (by decide) (F.2.2.2.2 _ (List.mem_cons_of_mem _ wd54)) (fun _ h => h) rfl hin rfl (by decide +kernel) rfl rfl (Nat.le_of_ble_eq_true rfl) dX7_init_50 (fun H locs hP hD hS => ?_)
  have hP : va_P D vwCl [(h0, .inr (7, [.int 30027, .ref q1, .ref q2, .ref q3, .ref q4, .null, .int 0])), (q1, .inl (cy 1, 30027, .inl (fun _ => 0))), (q2, .inl (cy 1, 30027, .inl (fun _ => 0))), (q3, .inl (cy 1, 30027, .inl (fun _ => 0))), (q4, .inl (cy 1, 30027, .inl (fun _ => 0)))] H := hP
  have hD : va_D A [(h0, .inr (7, [.int 30027, .ref q1, .ref q2, .ref q3, .ref q4, .null, .int 0])), (q1, .inl (cy 1, 30027, .inl (fun _ => 0))), (q2, .inl (cy 1, 30027, .inl (fun _ => 0))), (q3, .inl (cy 1, 30027, .inl (fun _ => 0))), (q4, .inl (cy 1, 30027, .inl (fun _ => 0)))] := hD
  refine lv_aload_n hx hb dX7_init_53 rfl (lv_at hl 0 rfl) ?_
  refine lv_aload_n hx hb dX7_init_54 rfl (lv_at hl 0 rfl) ?_
  refine va_get (D := D) (ci := 7) (v := .int 30027) (C := RX7) (T := TX7) (N := 7) F.1 F.2.1 F.2.2.2.2 (fun w h => List.mem_cons_of_mem _ (inG_X7 w h)) F.2.2.2.1 K hP 0 rfl rfl 0 (by decide) (F.2.2.2.2 _ (List.mem_cons_of_mem _ wd50)) (fun _ h => h) rfl dX7_init_55 ?_
  refine nw_i F K hP hD hS hA (by decide) (N := 30027) (by decide +kernel) (Nat.le_of_ble_eq_true rfl) (Nat.le_of_ble_eq_true rfl) (Nat.le_of_ble_eq_true rfl) dX7_init_58 (fun q5 H hP hD hS => ?_)
  have hP : va_P D vwCl [(h0, .inr (7, [.int 30027, .ref q1, .ref q2, .ref q3, .ref q4, .null, .int 0])), (q1, .inl (cy 1, 30027, .inl (fun _ => 0))), (q2, .inl (cy 1, 30027, .inl (fun _ => 0))), (q3, .inl (cy 1, 30027, .inl (fun _ => 0))), (q4, .inl (cy 1, 30027, .inl (fun _ => 0))), (q5, .inl (cy 1, 30027, .inl (fun _ => 0)))] H := hP
  have hD : va_D A [(h0, .inr (7, [.int 30027, .ref q1, .ref q2, .ref q3, .ref q4, .null, .int 0])), (q1, .inl (cy 1, 30027, .inl (fun _ => 0))), (q2, .inl (cy 1, 30027, .inl (fun _ => 0))), (q3, .inl (cy 1, 30027, .inl (fun _ => 0))), (q4, .inl (cy 1, 30027, .inl (fun _ => 0))), (q5, .inl (cy 1, 30027, .inl (fun _ => 0)))] := hD
  refine va_putF (D := D) (ci := 7) (v := .ref q5) (ty := .array .int) (C := RX7) (T := TX7) (N := 7) F.1 F.2.1 F.2.2.2.2 (fun w h => List.mem_cons_of_mem _ (inG_X7 w h)) tyX7 tyX7_ok nmX7 F.2.2.2.1 K hP hD hS 0 rfl rfl 5 (by decide) (F.2.2.2.2 _ (List.mem_cons_of_mem _ wd55)) (fun _ h => h) rfl hin rfl (by decide +kernel) rfl rfl (Nat.le_of_ble_eq_true rfl) dX7_init_60 (fun H locs hP hD hS => ?_)
  have hP : va_P D vwCl [(h0, .inr (7, [.int 30027, .ref q1, .ref q2, .ref q3, .ref q4, .ref q5, .int 0])), (q1, .inl (cy 1, 30027, .inl (fun _ => 0))), (q2, .inl (cy 1, 30027, .inl (fun _ => 0))), (q3, .inl (cy 1, 30027, .inl (fun _ => 0))), (q4, .inl (cy 1, 30027, .inl (fun _ => 0))), (q5, .inl (cy 1, 30027, .inl (fun _ => 0)))] H := hP
  have hD : va_D A [(h0, .inr (7, [.int 30027, .ref q1, .ref q2, .ref q3, .ref q4, .ref q5, .int 0])), (q1, .inl (cy 1, 30027, .inl (fun _ => 0))), (q2, .inl (cy 1, 30027, .inl (fun _ => 0))), (q3, .inl (cy 1, 30027, .inl (fun _ => 0))), (q4, .inl (cy 1, 30027, .inl (fun _ => 0))), (q5, .inl (cy 1, 30027, .inl (fun _ => 0)))] := hD
  refine W.widen (k := 5) (n := 150135) (Nat.le_of_ble_eq_true rfl) (Nat.le_of_ble_eq_true rfl) ?_
  exact ret_I (fun k => ([h0, q1, q2, q3, q4, q5] : List Nat).getD k 0) F hr hk rfl hP hD hS dX7_init_63


theorem wd1369 : Cond.code yX7_init prog_9_method_1_code 2 none ∈ Gw := gT1 (List.mem_of_getElem? (i := 126) rfl) rfl
theorem wd1370 : Cond.methodLink RX3 11 yX7_init ∈ Gw := gT1 (List.mem_of_getElem? (i := 124) rfl) rfl
theorem wd1371 : Cond.instanceMethod yX7_init ∈ Gw := gT1 (List.mem_of_getElem? (i := 125) rfl) rfl
set_option maxRecDepth 100000 in
set_option maxHeartbeats 8000000 in
theorem i_R {l : Launch} {D : va_G} {cy : Nat → ClassId} {ee : EE} {h0 r1 r2 : Nat} : CI l yX3_init cX3_init 3 2 45 6 15007 D cy ee [(h0, .inr (3, [.null, .null, .null, .int 0, .int 0, .int 0]))] h0 (fun u => [((u 0), .inr (3, [.ref r2, .ref r1, .ref (u 1), .int 0, .int 0, .int (-1)])), ((u 1), .inr (7, [.int 3000, .ref (u 2), .ref (u 3), .ref (u 4), .ref (u 5), .ref (u 6), .int 0])), ((u 2), .inl (cy 1, 3000, .inl (fun _ => 0))), ((u 3), .inl (cy 1, 3000, .inl (fun _ => 0))), ((u 4), .inl (cy 1, 3000, .inl (fun _ => 0))), ((u 5), .inl (cy 1, 3000, .inl (fun _ => 0))), ((u 6), .inl (cy 1, 3000, .inl (fun _ => 0)))]) [.ref h0, .ref r1, .ref r2] := by
  refine CI.of (by decide +kernel) (Nat.le_of_ble_eq_true rfl) ?_
  intro p e s m args below meth c A F hr hk hin K E I hA hP hD hS ls hl
  have hl : lv_has ls 3 [(0, .ref h0), (1, .ref r1), (2, .ref r2)] := hl
  have hx := F.1
  have hb := F.2.1
  have hin : meth.name = "<init>" := hin
  refine lv_aload_n hx hb dX3_init_0 rfl (lv_at hl 0 rfl) ?_
  refine W.objInit hx hb F.2.2.2.1 (F.2.2.2.2 _ (List.mem_cons_of_mem _ oi_X3)) (F.2.2.2.2 _ (List.mem_cons_of_mem _ oi_w1)) (F.2.2.2.2 _ (List.mem_cons_of_mem _ oi_w2)) rfl (by rw [F.2.2.1]; exact hl.1) rfl dX3_init_1 (Nat.le_of_ble_eq_true rfl) (Nat.le_of_ble_eq_true rfl) ?_
  refine W.eq (g2 := F0 m 4 ls []) rfl ?_
  refine lv_aload_n hx hb dX3_init_4 rfl (lv_at hl 0 rfl) ?_
  refine va_new (ci := 7) (fs := [.int 0, .null, .null, .null, .null, .null, .int 0]) (C := RX7) (T := TX7) (N := 7) F.1 F.2.1 F.2.2.2.2 (fun w h => List.mem_cons_of_mem _ (inG_X7 w h)) tyX7 tyX7_ok F.2.2.2.1 (F.2.2.2.2 _ (List.mem_cons_of_mem _ wx0)) (F.2.2.2.2 _ (List.mem_cons_of_mem _ wx1)) (F.2.2.2.2 _ (List.mem_cons_of_mem _ wd60)) K hP hD hS hA rfl (by decide +kernel) (Nat.le_of_ble_eq_true rfl) (Nat.le_of_ble_eq_true rfl) dX3_init_5 (fun q1 H hP hD hS => ?_)
  have hP : va_P D vwCl [(h0, .inr (3, [.null, .null, .null, .int 0, .int 0, .int 0])), (q1, .inr (7, [.int 0, .null, .null, .null, .null, .null, .int 0]))] H := hP
  have hD : va_D A [(h0, .inr (3, [.null, .null, .null, .int 0, .int 0, .int 0])), (q1, .inr (7, [.int 0, .null, .null, .null, .null, .null, .int 0]))] := hD
  refine lv_dup hx hb dX3_init_8 rfl ?_
  refine lv_sipush (v := 3000) hx hb dX3_init_9 (by decide) ?_
  refine call_I (n := 1) (wl := [(h0, .inr (3, [.null, .null, .null, .int 0, .int 0, .int 0]))]) F K E I hA hP hD hS (i_T0 (l := l) (D := D) (cy := cy) (ee := ee)) ⟨wd1369, wd60, wd1370, wd1371⟩  rfl (by decide +kernel) ⟨Nat.le_of_ble_eq_true rfl, Nat.le_of_ble_eq_true rfl⟩ rfl hl.1 (Nat.le_of_ble_eq_true rfl) dX3_init_12 ⟨Nat.le_of_ble_eq_true rfl, Nat.le_of_ble_eq_true rfl⟩ (fun u2 H locs huu2 gP gD gS => ?_)
  obtain rfl : q1 = u2 0 := huu2.symm
  have hP : va_P D vwCl [(h0, .inr (3, [.null, .null, .null, .int 0, .int 0, .int 0])), ((u2 0), .inr (7, [.int 3000, .ref (u2 1), .ref (u2 2), .ref (u2 3), .ref (u2 4), .ref (u2 5), .int 0])), ((u2 1), .inl (cy 1, 3000, .inl (fun _ => 0))), ((u2 2), .inl (cy 1, 3000, .inl (fun _ => 0))), ((u2 3), .inl (cy 1, 3000, .inl (fun _ => 0))), ((u2 4), .inl (cy 1, 3000, .inl (fun _ => 0))), ((u2 5), .inl (cy 1, 3000, .inl (fun _ => 0)))] H := gP
  have hD : va_D A [(h0, .inr (3, [.null, .null, .null, .int 0, .int 0, .int 0])), ((u2 0), .inr (7, [.int 3000, .ref (u2 1), .ref (u2 2), .ref (u2 3), .ref (u2 4), .ref (u2 5), .int 0])), ((u2 1), .inl (cy 1, 3000, .inl (fun _ => 0))), ((u2 2), .inl (cy 1, 3000, .inl (fun _ => 0))), ((u2 3), .inl (cy 1, 3000, .inl (fun _ => 0))), ((u2 4), .inl (cy 1, 3000, .inl (fun _ => 0))), ((u2 5), .inl (cy 1, 3000, .inl (fun _ => 0)))] := gD
  have hS := gS
  refine va_putF (D := D) (ci := 3) (v := .ref (u2 0)) (ty := .object "WorldProver$Terms") (C := RX3) (T := TX3) (N := 6) F.1 F.2.1 F.2.2.2.2 (fun w h => List.mem_cons_of_mem _ (inG_X3 w h)) tyX3 tyX3_ok nmX3 F.2.2.2.1 K hP hD hS 0 rfl rfl 2 (by decide) (F.2.2.2.2 _ (List.mem_cons_of_mem _ wd698)) (fun _ h => h) rfl hin rfl (by decide +kernel) rfl rfl (Nat.le_of_ble_eq_true rfl) dX3_init_15 (fun H locs hP hD hS => ?_)
  have hP : va_P D vwCl [(h0, .inr (3, [.null, .null, .ref (u2 0), .int 0, .int 0, .int 0])), ((u2 0), .inr (7, [.int 3000, .ref (u2 1), .ref (u2 2), .ref (u2 3), .ref (u2 4), .ref (u2 5), .int 0])), ((u2 1), .inl (cy 1, 3000, .inl (fun _ => 0))), ((u2 2), .inl (cy 1, 3000, .inl (fun _ => 0))), ((u2 3), .inl (cy 1, 3000, .inl (fun _ => 0))), ((u2 4), .inl (cy 1, 3000, .inl (fun _ => 0))), ((u2 5), .inl (cy 1, 3000, .inl (fun _ => 0)))] H := hP
  have hD : va_D A [(h0, .inr (3, [.null, .null, .ref (u2 0), .int 0, .int 0, .int 0])), ((u2 0), .inr (7, [.int 3000, .ref (u2 1), .ref (u2 2), .ref (u2 3), .ref (u2 4), .ref (u2 5), .int 0])), ((u2 1), .inl (cy 1, 3000, .inl (fun _ => 0))), ((u2 2), .inl (cy 1, 3000, .inl (fun _ => 0))), ((u2 3), .inl (cy 1, 3000, .inl (fun _ => 0))), ((u2 4), .inl (cy 1, 3000, .inl (fun _ => 0))), ((u2 5), .inl (cy 1, 3000, .inl (fun _ => 0)))] := hD
  refine lv_aload_n hx hb dX3_init_18 rfl (lv_at hl 0 rfl) ?_
  refine lv_iconst (v := -1) hx hb dX3_init_19 (by decide) ?_
  refine va_put (D := D) (ci := 3) (v := .int (-1)) (ty := .int) (C := RX3) (T := TX3) (N := 6) F.1 F.2.1 F.2.2.2.2 (fun w h => List.mem_cons_of_mem _ (inG_X3 w h)) tyX3 tyX3_ok nmX3 F.2.2.2.1 K hP hD hS 0 rfl rfl 5 (by decide) (F.2.2.2.2 _ (List.mem_cons_of_mem _ wd618)) (fun _ h => h) rfl (by decide +kernel) rfl rfl (Nat.le_of_ble_eq_true rfl) dX3_init_20 (fun H locs hP hD hS => ?_)
  have hP : va_P D vwCl [(h0, .inr (3, [.null, .null, .ref (u2 0), .int 0, .int 0, .int (-1)])), ((u2 0), .inr (7, [.int 3000, .ref (u2 1), .ref (u2 2), .ref (u2 3), .ref (u2 4), .ref (u2 5), .int 0])), ((u2 1), .inl (cy 1, 3000, .inl (fun _ => 0))), ((u2 2), .inl (cy 1, 3000, .inl (fun _ => 0))), ((u2 3), .inl (cy 1, 3000, .inl (fun _ => 0))), ((u2 4), .inl (cy 1, 3000, .inl (fun _ => 0))), ((u2 5), .inl (cy 1, 3000, .inl (fun _ => 0)))] H := hP
  have hD : va_D A [(h0, .inr (3, [.null, .null, .ref (u2 0), .int 0, .int 0, .int (-1)])), ((u2 0), .inr (7, [.int 3000, .ref (u2 1), .ref (u2 2), .ref (u2 3), .ref (u2 4), .ref (u2 5), .int 0])), ((u2 1), .inl (cy 1, 3000, .inl (fun _ => 0))), ((u2 2), .inl (cy 1, 3000, .inl (fun _ => 0))), ((u2 3), .inl (cy 1, 3000, .inl (fun _ => 0))), ((u2 4), .inl (cy 1, 3000, .inl (fun _ => 0))), ((u2 5), .inl (cy 1, 3000, .inl (fun _ => 0)))] := hD
  refine lv_aload_n hx hb dX3_init_23 rfl (lv_at hl 0 rfl) ?_
  refine lv_aload_n hx hb dX3_init_24 rfl (lv_at hl 1 rfl) ?_
  refine va_putF (D := D) (ci := 3) (v := .ref r1) (ty := .object "WorldProver$Tokens") (C := RX3) (T := TX3) (N := 6) F.1 F.2.1 F.2.2.2.2 (fun w h => List.mem_cons_of_mem _ (inG_X3 w h)) tyX3 tyX3_ok nmX3 F.2.2.2.1 K hP hD hS 0 rfl rfl 1 (by decide) (F.2.2.2.2 _ (List.mem_cons_of_mem _ wd615)) (fun _ h => h) rfl hin rfl (by decide +kernel) rfl rfl (Nat.le_of_ble_eq_true rfl) dX3_init_25 (fun H locs hP hD hS => ?_)
  have hP : va_P D vwCl [(h0, .inr (3, [.null, .ref r1, .ref (u2 0), .int 0, .int 0, .int (-1)])), ((u2 0), .inr (7, [.int 3000, .ref (u2 1), .ref (u2 2), .ref (u2 3), .ref (u2 4), .ref (u2 5), .int 0])), ((u2 1), .inl (cy 1, 3000, .inl (fun _ => 0))), ((u2 2), .inl (cy 1, 3000, .inl (fun _ => 0))), ((u2 3), .inl (cy 1, 3000, .inl (fun _ => 0))), ((u2 4), .inl (cy 1, 3000, .inl (fun _ => 0))), ((u2 5), .inl (cy 1, 3000, .inl (fun _ => 0)))] H := hP
  have hD : va_D A [(h0, .inr (3, [.null, .ref r1, .ref (u2 0), .int 0, .int 0, .int (-1)])), ((u2 0), .inr (7, [.int 3000, .ref (u2 1), .ref (u2 2), .ref (u2 3), .ref (u2 4), .ref (u2 5), .int 0])), ((u2 1), .inl (cy 1, 3000, .inl (fun _ => 0))), ((u2 2), .inl (cy 1, 3000, .inl (fun _ => 0))), ((u2 3), .inl (cy 1, 3000, .inl (fun _ => 0))), ((u2 4), .inl (cy 1, 3000, .inl (fun _ => 0))), ((u2 5), .inl (cy 1, 3000, .inl (fun _ => 0)))] := hD
  refine lv_aload_n hx hb dX3_init_28 rfl (lv_at hl 0 rfl) ?_
  refine lv_aload_n hx hb dX3_init_29 rfl (lv_at hl 2 rfl) ?_
  refine va_putF (D := D) (ci := 3) (v := .ref r2) (ty := .object "WorldProver$Formulas") (C := RX3) (T := TX3) (N := 6) F.1 F.2.1 F.2.2.2.2 (fun w h => List.mem_cons_of_mem _ (inG_X3 w h)) tyX3 tyX3_ok nmX3 F.2.2.2.1 K hP hD hS 0 rfl rfl 0 (by decide) (F.2.2.2.2 _ (List.mem_cons_of_mem _ wd636)) (fun _ h => h) rfl hin rfl (by decide +kernel) rfl rfl (Nat.le_of_ble_eq_true rfl) dX3_init_30 (fun H locs hP hD hS => ?_)
  have hP : va_P D vwCl [(h0, .inr (3, [.ref r2, .ref r1, .ref (u2 0), .int 0, .int 0, .int (-1)])), ((u2 0), .inr (7, [.int 3000, .ref (u2 1), .ref (u2 2), .ref (u2 3), .ref (u2 4), .ref (u2 5), .int 0])), ((u2 1), .inl (cy 1, 3000, .inl (fun _ => 0))), ((u2 2), .inl (cy 1, 3000, .inl (fun _ => 0))), ((u2 3), .inl (cy 1, 3000, .inl (fun _ => 0))), ((u2 4), .inl (cy 1, 3000, .inl (fun _ => 0))), ((u2 5), .inl (cy 1, 3000, .inl (fun _ => 0)))] H := hP
  have hD : va_D A [(h0, .inr (3, [.ref r2, .ref r1, .ref (u2 0), .int 0, .int 0, .int (-1)])), ((u2 0), .inr (7, [.int 3000, .ref (u2 1), .ref (u2 2), .ref (u2 3), .ref (u2 4), .ref (u2 5), .int 0])), ((u2 1), .inl (cy 1, 3000, .inl (fun _ => 0))), ((u2 2), .inl (cy 1, 3000, .inl (fun _ => 0))), ((u2 3), .inl (cy 1, 3000, .inl (fun _ => 0))), ((u2 4), .inl (cy 1, 3000, .inl (fun _ => 0))), ((u2 5), .inl (cy 1, 3000, .inl (fun _ => 0)))] := hD
  refine W.widen (k := 6) (n := 15007) (Nat.le_of_ble_eq_true rfl) (Nat.le_of_ble_eq_true rfl) ?_
  exact ret_I (fun k => ([h0, (u2 0), (u2 1), (u2 2), (u2 3), (u2 4), (u2 5)] : List Nat).getD k 0) F hr hk rfl hP hD hS dX3_init_33



set_option maxRecDepth 100000 in
set_option maxHeartbeats 8000000 in
theorem i_O {l : Launch} {D : va_G} {cy : Nat → ClassId} {ee : EE} {h0 r1 : Nat} : CI l yX10_init cX10_init 2 1 24 4 22008 D cy ee [(h0, .inr (10, [.null, .null, .null, .int 0, .int 0, .null, .null, .int 0]))] h0 (fun u => [((u 0), .inr (10, [.ref r1, .ref (u 1), .ref (u 2), .int 0, .int 0, .ref (u 3), .ref (u 4), .int 0])), ((u 1), .inl (cy 0, 8000, .inl (fun _ => 0))), ((u 2), .inl (cy 0, 8000, .inl (fun _ => 0))), ((u 3), .inl (cy 1, 2000, .inl (fun _ => 0))), ((u 4), .inl (cy 1, 4008, .inl (fun _ => 0)))]) [.ref h0, .ref r1] := by
  refine CI.of (by decide +kernel) (Nat.le_of_ble_eq_true rfl) ?_
  intro p e s m args below meth c A F hr hk hin K E I hA hP hD hS ls hl
  have hl : lv_has ls 2 [(0, .ref h0), (1, .ref r1)] := hl
  have hx := F.1
  have hb := F.2.1
  have hin : meth.name = "<init>" := hin
  refine lv_aload_n hx hb dX10_init_0 rfl (lv_at hl 0 rfl) ?_
  refine W.objInit hx hb F.2.2.2.1 (F.2.2.2.2 _ (List.mem_cons_of_mem _ oi_X10)) (F.2.2.2.2 _ (List.mem_cons_of_mem _ oi_w1)) (F.2.2.2.2 _ (List.mem_cons_of_mem _ oi_w2)) rfl (by rw [F.2.2.1]; exact hl.1) rfl dX10_init_1 (Nat.le_of_ble_eq_true rfl) (Nat.le_of_ble_eq_true rfl) ?_
  refine W.eq (g2 := F0 m 4 ls []) rfl ?_
  refine lv_aload_n hx hb dX10_init_4 rfl (lv_at hl 0 rfl) ?_
  refine lv_sipush (v := 8000) hx hb dX10_init_5 (by decide) ?_
  refine nw_b F K hP hD hS hA (by decide) (N := 8000) (by decide +kernel) (Nat.le_of_ble_eq_true rfl) (Nat.le_of_ble_eq_true rfl) (Nat.le_of_ble_eq_true rfl) dX10_init_8 (fun q1 H hP hD hS => ?_)
  have hP : va_P D vwCl [(h0, .inr (10, [.null, .null, .null, .int 0, .int 0, .null, .null, .int 0])), (q1, .inl (cy 0, 8000, .inl (fun _ => 0)))] H := hP
  have hD : va_D A [(h0, .inr (10, [.null, .null, .null, .int 0, .int 0, .null, .null, .int 0])), (q1, .inl (cy 0, 8000, .inl (fun _ => 0)))] := hD
  refine va_put (D := D) (ci := 10) (v := .ref q1) (ty := .array .byte) (C := RX10) (T := TX10) (N := 8) F.1 F.2.1 F.2.2.2.2 (fun w h => List.mem_cons_of_mem _ (inG_X10 w h)) tyX10 tyX10_ok nmX10 F.2.2.2.1 K hP hD hS 0 rfl rfl 1 (by decide) (F.2.2.2.2 _ (List.mem_cons_of_mem _ wd510)) (fun _ h => h) rfl (by decide +kernel) rfl rfl (Nat.le_of_ble_eq_true rfl) dX10_init_10 (fun H locs hP hD hS => ?_)
  have hP : va_P D vwCl [(h0, .inr (10, [.null, .ref q1, .null, .int 0, .int 0, .null, .null, .int 0])), (q1, .inl (cy 0, 8000, .inl (fun _ => 0)))] H := hP
  have hD : va_D A [(h0, .inr (10, [.null, .ref q1, .null, .int 0, .int 0, .null, .null, .int 0])), (q1, .inl (cy 0, 8000, .inl (fun _ => 0)))] := hD
  refine lv_aload_n hx hb dX10_init_13 rfl (lv_at hl 0 rfl) ?_
  refine lv_sipush (v := 8000) hx hb dX10_init_14 (by decide) ?_
  refine nw_b F K hP hD hS hA (by decide) (N := 8000) (by decide +kernel) (Nat.le_of_ble_eq_true rfl) (Nat.le_of_ble_eq_true rfl) (Nat.le_of_ble_eq_true rfl) dX10_init_17 (fun q2 H hP hD hS => ?_)
  have hP : va_P D vwCl [(h0, .inr (10, [.null, .ref q1, .null, .int 0, .int 0, .null, .null, .int 0])), (q1, .inl (cy 0, 8000, .inl (fun _ => 0))), (q2, .inl (cy 0, 8000, .inl (fun _ => 0)))] H := hP
  have hD : va_D A [(h0, .inr (10, [.null, .ref q1, .null, .int 0, .int 0, .null, .null, .int 0])), (q1, .inl (cy 0, 8000, .inl (fun _ => 0))), (q2, .inl (cy 0, 8000, .inl (fun _ => 0)))] := hD
  refine va_put (D := D) (ci := 10) (v := .ref q2) (ty := .array .byte) (C := RX10) (T := TX10) (N := 8) F.1 F.2.1 F.2.2.2.2 (fun w h => List.mem_cons_of_mem _ (inG_X10 w h)) tyX10 tyX10_ok nmX10 F.2.2.2.1 K hP hD hS 0 rfl rfl 2 (by decide) (F.2.2.2.2 _ (List.mem_cons_of_mem _ wd512)) (fun _ h => h) rfl (by decide +kernel) rfl rfl (Nat.le_of_ble_eq_true rfl) dX10_init_19 (fun H locs hP hD hS => ?_)
  have hP : va_P D vwCl [(h0, .inr (10, [.null, .ref q1, .ref q2, .int 0, .int 0, .null, .null, .int 0])), (q1, .inl (cy 0, 8000, .inl (fun _ => 0))), (q2, .inl (cy 0, 8000, .inl (fun _ => 0)))] H := hP
  have hD : va_D A [(h0, .inr (10, [.null, .ref q1, .ref q2, .int 0, .int 0, .null, .null, .int 0])), (q1, .inl (cy 0, 8000, .inl (fun _ => 0))), (q2, .inl (cy 0, 8000, .inl (fun _ => 0)))] := hD
  refine lv_aload_n hx hb dX10_init_22 rfl (lv_at hl 0 rfl) ?_
  refine lv_sipush (v := 2000) hx hb dX10_init_23 (by decide) ?_
  refine nw_i F K hP hD hS hA (by decide) (N := 2000) (by decide +kernel) (Nat.le_of_ble_eq_true rfl) (Nat.le_of_ble_eq_true rfl) (Nat.le_of_ble_eq_true rfl) dX10_init_26 (fun q3 H hP hD hS => ?_)
  have hP : va_P D vwCl [(h0, .inr (10, [.null, .ref q1, .ref q2, .int 0, .int 0, .null, .null, .int 0])), (q1, .inl (cy 0, 8000, .inl (fun _ => 0))), (q2, .inl (cy 0, 8000, .inl (fun _ => 0))), (q3, .inl (cy 1, 2000, .inl (fun _ => 0)))] H := hP
  have hD : va_D A [(h0, .inr (10, [.null, .ref q1, .ref q2, .int 0, .int 0, .null, .null, .int 0])), (q1, .inl (cy 0, 8000, .inl (fun _ => 0))), (q2, .inl (cy 0, 8000, .inl (fun _ => 0))), (q3, .inl (cy 1, 2000, .inl (fun _ => 0)))] := hD
  refine va_putF (D := D) (ci := 10) (v := .ref q3) (ty := .array .int) (C := RX10) (T := TX10) (N := 8) F.1 F.2.1 F.2.2.2.2 (fun w h => List.mem_cons_of_mem _ (inG_X10 w h)) tyX10 tyX10_ok nmX10 F.2.2.2.1 K hP hD hS 0 rfl rfl 5 (by decide) (F.2.2.2.2 _ (List.mem_cons_of_mem _ wd520)) (fun _ h => h) rfl hin rfl (by decide +kernel) rfl rfl (Nat.le_of_ble_eq_true rfl) dX10_init_28 (fun H locs hP hD hS => ?_)
  have hP : va_P D vwCl [(h0, .inr (10, [.null, .ref q1, .ref q2, .int 0, .int 0, .ref q3, .null, .int 0])), (q1, .inl (cy 0, 8000, .inl (fun _ => 0))), (q2, .inl (cy 0, 8000, .inl (fun _ => 0))), (q3, .inl (cy 1, 2000, .inl (fun _ => 0)))] H := hP
  have hD : va_D A [(h0, .inr (10, [.null, .ref q1, .ref q2, .int 0, .int 0, .ref q3, .null, .int 0])), (q1, .inl (cy 0, 8000, .inl (fun _ => 0))), (q2, .inl (cy 0, 8000, .inl (fun _ => 0))), (q3, .inl (cy 1, 2000, .inl (fun _ => 0)))] := hD
  refine lv_aload_n hx hb dX10_init_31 rfl (lv_at hl 0 rfl) ?_
  refine lv_sipush (v := 4008) hx hb dX10_init_32 (by decide) ?_
  refine nw_i F K hP hD hS hA (by decide) (N := 4008) (by decide +kernel) (Nat.le_of_ble_eq_true rfl) (Nat.le_of_ble_eq_true rfl) (Nat.le_of_ble_eq_true rfl) dX10_init_35 (fun q4 H hP hD hS => ?_)
  have hP : va_P D vwCl [(h0, .inr (10, [.null, .ref q1, .ref q2, .int 0, .int 0, .ref q3, .null, .int 0])), (q1, .inl (cy 0, 8000, .inl (fun _ => 0))), (q2, .inl (cy 0, 8000, .inl (fun _ => 0))), (q3, .inl (cy 1, 2000, .inl (fun _ => 0))), (q4, .inl (cy 1, 4008, .inl (fun _ => 0)))] H := hP
  have hD : va_D A [(h0, .inr (10, [.null, .ref q1, .ref q2, .int 0, .int 0, .ref q3, .null, .int 0])), (q1, .inl (cy 0, 8000, .inl (fun _ => 0))), (q2, .inl (cy 0, 8000, .inl (fun _ => 0))), (q3, .inl (cy 1, 2000, .inl (fun _ => 0))), (q4, .inl (cy 1, 4008, .inl (fun _ => 0)))] := hD
  refine va_putF (D := D) (ci := 10) (v := .ref q4) (ty := .array .int) (C := RX10) (T := TX10) (N := 8) F.1 F.2.1 F.2.2.2.2 (fun w h => List.mem_cons_of_mem _ (inG_X10 w h)) tyX10 tyX10_ok nmX10 F.2.2.2.1 K hP hD hS 0 rfl rfl 6 (by decide) (F.2.2.2.2 _ (List.mem_cons_of_mem _ wd568)) (fun _ h => h) rfl hin rfl (by decide +kernel) rfl rfl (Nat.le_of_ble_eq_true rfl) dX10_init_37 (fun H locs hP hD hS => ?_)
  have hP : va_P D vwCl [(h0, .inr (10, [.null, .ref q1, .ref q2, .int 0, .int 0, .ref q3, .ref q4, .int 0])), (q1, .inl (cy 0, 8000, .inl (fun _ => 0))), (q2, .inl (cy 0, 8000, .inl (fun _ => 0))), (q3, .inl (cy 1, 2000, .inl (fun _ => 0))), (q4, .inl (cy 1, 4008, .inl (fun _ => 0)))] H := hP
  have hD : va_D A [(h0, .inr (10, [.null, .ref q1, .ref q2, .int 0, .int 0, .ref q3, .ref q4, .int 0])), (q1, .inl (cy 0, 8000, .inl (fun _ => 0))), (q2, .inl (cy 0, 8000, .inl (fun _ => 0))), (q3, .inl (cy 1, 2000, .inl (fun _ => 0))), (q4, .inl (cy 1, 4008, .inl (fun _ => 0)))] := hD
  refine lv_aload_n hx hb dX10_init_40 rfl (lv_at hl 0 rfl) ?_
  refine lv_aload_n hx hb dX10_init_41 rfl (lv_at hl 1 rfl) ?_
  refine va_putF (D := D) (ci := 10) (v := .ref r1) (ty := .object "WorldProver$Formulas") (C := RX10) (T := TX10) (N := 8) F.1 F.2.1 F.2.2.2.2 (fun w h => List.mem_cons_of_mem _ (inG_X10 w h)) tyX10 tyX10_ok nmX10 F.2.2.2.1 K hP hD hS 0 rfl rfl 0 (by decide) (F.2.2.2.2 _ (List.mem_cons_of_mem _ wd521)) (fun _ h => h) rfl hin rfl (by decide +kernel) rfl rfl (Nat.le_of_ble_eq_true rfl) dX10_init_42 (fun H locs hP hD hS => ?_)
  have hP : va_P D vwCl [(h0, .inr (10, [.ref r1, .ref q1, .ref q2, .int 0, .int 0, .ref q3, .ref q4, .int 0])), (q1, .inl (cy 0, 8000, .inl (fun _ => 0))), (q2, .inl (cy 0, 8000, .inl (fun _ => 0))), (q3, .inl (cy 1, 2000, .inl (fun _ => 0))), (q4, .inl (cy 1, 4008, .inl (fun _ => 0)))] H := hP
  have hD : va_D A [(h0, .inr (10, [.ref r1, .ref q1, .ref q2, .int 0, .int 0, .ref q3, .ref q4, .int 0])), (q1, .inl (cy 0, 8000, .inl (fun _ => 0))), (q2, .inl (cy 0, 8000, .inl (fun _ => 0))), (q3, .inl (cy 1, 2000, .inl (fun _ => 0))), (q4, .inl (cy 1, 4008, .inl (fun _ => 0)))] := hD
  refine W.widen (k := 4) (n := 22008) (Nat.le_of_ble_eq_true rfl) (Nat.le_of_ble_eq_true rfl) ?_
  exact ret_I (fun k => ([h0, q1, q2, q3, q4] : List Nat).getD k 0) F hr hk rfl hP hD hS dX10_init_45



set_option maxRecDepth 100000 in
set_option maxHeartbeats 8000000 in
theorem i_Q {l : Launch} {D : va_G} {cy : Nat → ClassId} {ee : EE} {h0 : Nat} : CI l yX6_init cX6_init 1 1 24 4 24522 D cy ee [(h0, .inr (6, [.null, .null, .null, .null, .int 0]))] h0 (fun u => [((u 0), .inr (6, [.ref (u 1), .ref (u 2), .ref (u 3), .ref (u 4), .int 0])), ((u 1), .inl (cy 1, 12060, .inl (fun _ => 0))), ((u 2), .inl (cy 1, 12060, .inl (fun _ => 0))), ((u 3), .inl (cy 1, 201, .inl (fun _ => 0))), ((u 4), .inl (cy 1, 201, .inl (fun _ => 0)))]) [.ref h0] := by
  refine CI.of (by decide +kernel) (Nat.le_of_ble_eq_true rfl) ?_
  intro p e s m args below meth c A F hr hk hin K E I hA hP hD hS ls hl
  have hl : lv_has ls 1 [(0, .ref h0)] := hl
  have hx := F.1
  have hb := F.2.1
  have hin : meth.name = "<init>" := hin
  refine lv_aload_n hx hb dX6_init_0 rfl (lv_at hl 0 rfl) ?_
  refine W.objInit hx hb F.2.2.2.1 (F.2.2.2.2 _ (List.mem_cons_of_mem _ oi_X6)) (F.2.2.2.2 _ (List.mem_cons_of_mem _ oi_w1)) (F.2.2.2.2 _ (List.mem_cons_of_mem _ oi_w2)) rfl (by rw [F.2.2.1]; exact hl.1) rfl dX6_init_1 (Nat.le_of_ble_eq_true rfl) (Nat.le_of_ble_eq_true rfl) ?_
  refine W.eq (g2 := F0 m 4 ls []) rfl ?_
  refine lv_aload_n hx hb dX6_init_4 rfl (lv_at hl 0 rfl) ?_
  refine lv_sipush (v := 12060) hx hb dX6_init_5 (by decide) ?_
  refine nw_i F K hP hD hS hA (by decide) (N := 12060) (by decide +kernel) (Nat.le_of_ble_eq_true rfl) (Nat.le_of_ble_eq_true rfl) (Nat.le_of_ble_eq_true rfl) dX6_init_8 (fun q1 H hP hD hS => ?_)
  have hP : va_P D vwCl [(h0, .inr (6, [.null, .null, .null, .null, .int 0])), (q1, .inl (cy 1, 12060, .inl (fun _ => 0)))] H := hP
  have hD : va_D A [(h0, .inr (6, [.null, .null, .null, .null, .int 0])), (q1, .inl (cy 1, 12060, .inl (fun _ => 0)))] := hD
  refine va_putF (D := D) (ci := 6) (v := .ref q1) (ty := .array .int) (C := RX6) (T := TX6) (N := 5) F.1 F.2.1 F.2.2.2.2 (fun w h => List.mem_cons_of_mem _ (inG_X6 w h)) tyX6 tyX6_ok nmX6 F.2.2.2.1 K hP hD hS 0 rfl rfl 0 (by decide) (F.2.2.2.2 _ (List.mem_cons_of_mem _ wd80)) (fun _ h => h) rfl hin rfl (by decide +kernel) rfl rfl (Nat.le_of_ble_eq_true rfl) dX6_init_10 (fun H locs hP hD hS => ?_)
  have hP : va_P D vwCl [(h0, .inr (6, [.ref q1, .null, .null, .null, .int 0])), (q1, .inl (cy 1, 12060, .inl (fun _ => 0)))] H := hP
  have hD : va_D A [(h0, .inr (6, [.ref q1, .null, .null, .null, .int 0])), (q1, .inl (cy 1, 12060, .inl (fun _ => 0)))] := hD
  refine lv_aload_n hx hb dX6_init_13 rfl (lv_at hl 0 rfl) ?_
  refine lv_sipush (v := 12060) hx hb dX6_init_14 (by decide) ?_
  refine nw_i F K hP hD hS hA (by decide) (N := 12060) (by decide +kernel) (Nat.le_of_ble_eq_true rfl) (Nat.le_of_ble_eq_true rfl) (Nat.le_of_ble_eq_true rfl) dX6_init_17 (fun q2 H hP hD hS => ?_)
  have hP : va_P D vwCl [(h0, .inr (6, [.ref q1, .null, .null, .null, .int 0])), (q1, .inl (cy 1, 12060, .inl (fun _ => 0))), (q2, .inl (cy 1, 12060, .inl (fun _ => 0)))] H := hP
  have hD : va_D A [(h0, .inr (6, [.ref q1, .null, .null, .null, .int 0])), (q1, .inl (cy 1, 12060, .inl (fun _ => 0))), (q2, .inl (cy 1, 12060, .inl (fun _ => 0)))] := hD
  refine va_putF (D := D) (ci := 6) (v := .ref q2) (ty := .array .int) (C := RX6) (T := TX6) (N := 5) F.1 F.2.1 F.2.2.2.2 (fun w h => List.mem_cons_of_mem _ (inG_X6 w h)) tyX6 tyX6_ok nmX6 F.2.2.2.1 K hP hD hS 0 rfl rfl 1 (by decide) (F.2.2.2.2 _ (List.mem_cons_of_mem _ wd85)) (fun _ h => h) rfl hin rfl (by decide +kernel) rfl rfl (Nat.le_of_ble_eq_true rfl) dX6_init_19 (fun H locs hP hD hS => ?_)
  have hP : va_P D vwCl [(h0, .inr (6, [.ref q1, .ref q2, .null, .null, .int 0])), (q1, .inl (cy 1, 12060, .inl (fun _ => 0))), (q2, .inl (cy 1, 12060, .inl (fun _ => 0)))] H := hP
  have hD : va_D A [(h0, .inr (6, [.ref q1, .ref q2, .null, .null, .int 0])), (q1, .inl (cy 1, 12060, .inl (fun _ => 0))), (q2, .inl (cy 1, 12060, .inl (fun _ => 0)))] := hD
  refine lv_aload_n hx hb dX6_init_22 rfl (lv_at hl 0 rfl) ?_
  refine lv_sipush (v := 201) hx hb dX6_init_23 (by decide) ?_
  refine nw_i F K hP hD hS hA (by decide) (N := 201) (by decide +kernel) (Nat.le_of_ble_eq_true rfl) (Nat.le_of_ble_eq_true rfl) (Nat.le_of_ble_eq_true rfl) dX6_init_26 (fun q3 H hP hD hS => ?_)
  have hP : va_P D vwCl [(h0, .inr (6, [.ref q1, .ref q2, .null, .null, .int 0])), (q1, .inl (cy 1, 12060, .inl (fun _ => 0))), (q2, .inl (cy 1, 12060, .inl (fun _ => 0))), (q3, .inl (cy 1, 201, .inl (fun _ => 0)))] H := hP
  have hD : va_D A [(h0, .inr (6, [.ref q1, .ref q2, .null, .null, .int 0])), (q1, .inl (cy 1, 12060, .inl (fun _ => 0))), (q2, .inl (cy 1, 12060, .inl (fun _ => 0))), (q3, .inl (cy 1, 201, .inl (fun _ => 0)))] := hD
  refine va_putF (D := D) (ci := 6) (v := .ref q3) (ty := .array .int) (C := RX6) (T := TX6) (N := 5) F.1 F.2.1 F.2.2.2.2 (fun w h => List.mem_cons_of_mem _ (inG_X6 w h)) tyX6 tyX6_ok nmX6 F.2.2.2.1 K hP hD hS 0 rfl rfl 2 (by decide) (F.2.2.2.2 _ (List.mem_cons_of_mem _ wd74)) (fun _ h => h) rfl hin rfl (by decide +kernel) rfl rfl (Nat.le_of_ble_eq_true rfl) dX6_init_28 (fun H locs hP hD hS => ?_)
  have hP : va_P D vwCl [(h0, .inr (6, [.ref q1, .ref q2, .ref q3, .null, .int 0])), (q1, .inl (cy 1, 12060, .inl (fun _ => 0))), (q2, .inl (cy 1, 12060, .inl (fun _ => 0))), (q3, .inl (cy 1, 201, .inl (fun _ => 0)))] H := hP
  have hD : va_D A [(h0, .inr (6, [.ref q1, .ref q2, .ref q3, .null, .int 0])), (q1, .inl (cy 1, 12060, .inl (fun _ => 0))), (q2, .inl (cy 1, 12060, .inl (fun _ => 0))), (q3, .inl (cy 1, 201, .inl (fun _ => 0)))] := hD
  refine lv_aload_n hx hb dX6_init_31 rfl (lv_at hl 0 rfl) ?_
  refine lv_sipush (v := 201) hx hb dX6_init_32 (by decide) ?_
  refine nw_i F K hP hD hS hA (by decide) (N := 201) (by decide +kernel) (Nat.le_of_ble_eq_true rfl) (Nat.le_of_ble_eq_true rfl) (Nat.le_of_ble_eq_true rfl) dX6_init_35 (fun q4 H hP hD hS => ?_)
  have hP : va_P D vwCl [(h0, .inr (6, [.ref q1, .ref q2, .ref q3, .null, .int 0])), (q1, .inl (cy 1, 12060, .inl (fun _ => 0))), (q2, .inl (cy 1, 12060, .inl (fun _ => 0))), (q3, .inl (cy 1, 201, .inl (fun _ => 0))), (q4, .inl (cy 1, 201, .inl (fun _ => 0)))] H := hP
  have hD : va_D A [(h0, .inr (6, [.ref q1, .ref q2, .ref q3, .null, .int 0])), (q1, .inl (cy 1, 12060, .inl (fun _ => 0))), (q2, .inl (cy 1, 12060, .inl (fun _ => 0))), (q3, .inl (cy 1, 201, .inl (fun _ => 0))), (q4, .inl (cy 1, 201, .inl (fun _ => 0)))] := hD
  refine va_putF (D := D) (ci := 6) (v := .ref q4) (ty := .array .int) (C := RX6) (T := TX6) (N := 5) F.1 F.2.1 F.2.2.2.2 (fun w h => List.mem_cons_of_mem _ (inG_X6 w h)) tyX6 tyX6_ok nmX6 F.2.2.2.1 K hP hD hS 0 rfl rfl 3 (by decide) (F.2.2.2.2 _ (List.mem_cons_of_mem _ wd79)) (fun _ h => h) rfl hin rfl (by decide +kernel) rfl rfl (Nat.le_of_ble_eq_true rfl) dX6_init_37 (fun H locs hP hD hS => ?_)
  have hP : va_P D vwCl [(h0, .inr (6, [.ref q1, .ref q2, .ref q3, .ref q4, .int 0])), (q1, .inl (cy 1, 12060, .inl (fun _ => 0))), (q2, .inl (cy 1, 12060, .inl (fun _ => 0))), (q3, .inl (cy 1, 201, .inl (fun _ => 0))), (q4, .inl (cy 1, 201, .inl (fun _ => 0)))] H := hP
  have hD : va_D A [(h0, .inr (6, [.ref q1, .ref q2, .ref q3, .ref q4, .int 0])), (q1, .inl (cy 1, 12060, .inl (fun _ => 0))), (q2, .inl (cy 1, 12060, .inl (fun _ => 0))), (q3, .inl (cy 1, 201, .inl (fun _ => 0))), (q4, .inl (cy 1, 201, .inl (fun _ => 0)))] := hD
  refine W.widen (k := 4) (n := 24522) (Nat.le_of_ble_eq_true rfl) (Nat.le_of_ble_eq_true rfl) ?_
  exact ret_I (fun k => ([h0, q1, q2, q3, q4] : List Nat).getD k 0) F hr hk rfl hP hD hS dX6_init_40



set_option maxRecDepth 100000 in
set_option maxHeartbeats 8000000 in
theorem i_U {l : Launch} {D : va_G} {cy : Nat → ClassId} {ee : EE} {h0 : Nat} : CI l yX4_init cX4_init 1 1 24 6 8400 D cy ee [(h0, .inr (4, [.null, .null, .null, .null, .null, .null, .int 0]))] h0 (fun u => [((u 0), .inr (4, [.ref (u 1), .ref (u 2), .ref (u 3), .ref (u 4), .ref (u 5), .ref (u 6), .int 0])), ((u 1), .inl (cy 1, 2000, .inl (fun _ => 0))), ((u 2), .inl (cy 1, 2000, .inl (fun _ => 0))), ((u 3), .inl (cy 1, 2000, .inl (fun _ => 0))), ((u 4), .inl (cy 1, 2000, .inl (fun _ => 0))), ((u 5), .inl (cy 1, 200, .inl (fun _ => 0))), ((u 6), .inl (cy 1, 200, .inl (fun _ => 0)))]) [.ref h0] := by
  refine CI.of (by decide +kernel) (Nat.le_of_ble_eq_true rfl) ?_
  intro p e s m args below meth c A F hr hk hin K E I hA hP hD hS ls hl
  have hl : lv_has ls 1 [(0, .ref h0)] := hl
  have hx := F.1
  have hb := F.2.1
  have hin : meth.name = "<init>" := hin
  refine lv_aload_n hx hb dX4_init_0 rfl (lv_at hl 0 rfl) ?_
  refine W.objInit hx hb F.2.2.2.1 (F.2.2.2.2 _ (List.mem_cons_of_mem _ oi_X4)) (F.2.2.2.2 _ (List.mem_cons_of_mem _ oi_w1)) (F.2.2.2.2 _ (List.mem_cons_of_mem _ oi_w2)) rfl (by rw [F.2.2.1]; exact hl.1) rfl dX4_init_1 (Nat.le_of_ble_eq_true rfl) (Nat.le_of_ble_eq_true rfl) ?_
  refine W.eq (g2 := F0 m 4 ls []) rfl ?_
  refine lv_aload_n hx hb dX4_init_4 rfl (lv_at hl 0 rfl) ?_
  refine lv_sipush (v := 2000) hx hb dX4_init_5 (by decide) ?_
  refine nw_i F K hP hD hS hA (by decide) (N := 2000) (by decide +kernel) (Nat.le_of_ble_eq_true rfl) (Nat.le_of_ble_eq_true rfl) (Nat.le_of_ble_eq_true rfl) dX4_init_8 (fun q1 H hP hD hS => ?_)
  have hP : va_P D vwCl [(h0, .inr (4, [.null, .null, .null, .null, .null, .null, .int 0])), (q1, .inl (cy 1, 2000, .inl (fun _ => 0)))] H := hP
  have hD : va_D A [(h0, .inr (4, [.null, .null, .null, .null, .null, .null, .int 0])), (q1, .inl (cy 1, 2000, .inl (fun _ => 0)))] := hD
  refine va_putF (D := D) (ci := 4) (v := .ref q1) (ty := .array .int) (C := RX4) (T := TX4) (N := 7) F.1 F.2.1 F.2.2.2.2 (fun w h => List.mem_cons_of_mem _ (inG_X4 w h)) tyX4 tyX4_ok nmX4 F.2.2.2.1 K hP hD hS 0 rfl rfl 0 (by decide) (F.2.2.2.2 _ (List.mem_cons_of_mem _ wd110)) (fun _ h => h) rfl hin rfl (by decide +kernel) rfl rfl (Nat.le_of_ble_eq_true rfl) dX4_init_10 (fun H locs hP hD hS => ?_)
  have hP : va_P D vwCl [(h0, .inr (4, [.ref q1, .null, .null, .null, .null, .null, .int 0])), (q1, .inl (cy 1, 2000, .inl (fun _ => 0)))] H := hP
  have hD : va_D A [(h0, .inr (4, [.ref q1, .null, .null, .null, .null, .null, .int 0])), (q1, .inl (cy 1, 2000, .inl (fun _ => 0)))] := hD
  refine lv_aload_n hx hb dX4_init_13 rfl (lv_at hl 0 rfl) ?_
  refine lv_sipush (v := 2000) hx hb dX4_init_14 (by decide) ?_
  refine nw_i F K hP hD hS hA (by decide) (N := 2000) (by decide +kernel) (Nat.le_of_ble_eq_true rfl) (Nat.le_of_ble_eq_true rfl) (Nat.le_of_ble_eq_true rfl) dX4_init_17 (fun q2 H hP hD hS => ?_)
  have hP : va_P D vwCl [(h0, .inr (4, [.ref q1, .null, .null, .null, .null, .null, .int 0])), (q1, .inl (cy 1, 2000, .inl (fun _ => 0))), (q2, .inl (cy 1, 2000, .inl (fun _ => 0)))] H := hP
  have hD : va_D A [(h0, .inr (4, [.ref q1, .null, .null, .null, .null, .null, .int 0])), (q1, .inl (cy 1, 2000, .inl (fun _ => 0))), (q2, .inl (cy 1, 2000, .inl (fun _ => 0)))] := hD
  refine va_putF (D := D) (ci := 4) (v := .ref q2) (ty := .array .int) (C := RX4) (T := TX4) (N := 7) F.1 F.2.1 F.2.2.2.2 (fun w h => List.mem_cons_of_mem _ (inG_X4 w h)) tyX4 tyX4_ok nmX4 F.2.2.2.1 K hP hD hS 0 rfl rfl 1 (by decide) (F.2.2.2.2 _ (List.mem_cons_of_mem _ wd111)) (fun _ h => h) rfl hin rfl (by decide +kernel) rfl rfl (Nat.le_of_ble_eq_true rfl) dX4_init_19 (fun H locs hP hD hS => ?_)
  have hP : va_P D vwCl [(h0, .inr (4, [.ref q1, .ref q2, .null, .null, .null, .null, .int 0])), (q1, .inl (cy 1, 2000, .inl (fun _ => 0))), (q2, .inl (cy 1, 2000, .inl (fun _ => 0)))] H := hP
  have hD : va_D A [(h0, .inr (4, [.ref q1, .ref q2, .null, .null, .null, .null, .int 0])), (q1, .inl (cy 1, 2000, .inl (fun _ => 0))), (q2, .inl (cy 1, 2000, .inl (fun _ => 0)))] := hD
  refine lv_aload_n hx hb dX4_init_22 rfl (lv_at hl 0 rfl) ?_
  refine lv_sipush (v := 2000) hx hb dX4_init_23 (by decide) ?_
  refine nw_i F K hP hD hS hA (by decide) (N := 2000) (by decide +kernel) (Nat.le_of_ble_eq_true rfl) (Nat.le_of_ble_eq_true rfl) (Nat.le_of_ble_eq_true rfl) dX4_init_26 (fun q3 H hP hD hS => ?_)
  have hP : va_P D vwCl [(h0, .inr (4, [.ref q1, .ref q2, .null, .null, .null, .null, .int 0])), (q1, .inl (cy 1, 2000, .inl (fun _ => 0))), (q2, .inl (cy 1, 2000, .inl (fun _ => 0))), (q3, .inl (cy 1, 2000, .inl (fun _ => 0)))] H := hP
  have hD : va_D A [(h0, .inr (4, [.ref q1, .ref q2, .null, .null, .null, .null, .int 0])), (q1, .inl (cy 1, 2000, .inl (fun _ => 0))), (q2, .inl (cy 1, 2000, .inl (fun _ => 0))), (q3, .inl (cy 1, 2000, .inl (fun _ => 0)))] := hD
  refine va_putF (D := D) (ci := 4) (v := .ref q3) (ty := .array .int) (C := RX4) (T := TX4) (N := 7) F.1 F.2.1 F.2.2.2.2 (fun w h => List.mem_cons_of_mem _ (inG_X4 w h)) tyX4 tyX4_ok nmX4 F.2.2.2.1 K hP hD hS 0 rfl rfl 2 (by decide) (F.2.2.2.2 _ (List.mem_cons_of_mem _ wd103)) (fun _ h => h) rfl hin rfl (by decide +kernel) rfl rfl (Nat.le_of_ble_eq_true rfl) dX4_init_28 (fun H locs hP hD hS => ?_)
  have hP : va_P D vwCl [(h0, .inr (4, [.ref q1, .ref q2, .ref q3, .null, .null, .null, .int 0])), (q1, .inl (cy 1, 2000, .inl (fun _ => 0))), (q2, .inl (cy 1, 2000, .inl (fun _ => 0))), (q3, .inl (cy 1, 2000, .inl (fun _ => 0)))] H := hP
  have hD : va_D A [(h0, .inr (4, [.ref q1, .ref q2, .ref q3, .null, .null, .null, .int 0])), (q1, .inl (cy 1, 2000, .inl (fun _ => 0))), (q2, .inl (cy 1, 2000, .inl (fun _ => 0))), (q3, .inl (cy 1, 2000, .inl (fun _ => 0)))] := hD
  refine lv_aload_n hx hb dX4_init_31 rfl (lv_at hl 0 rfl) ?_
  refine lv_sipush (v := 2000) hx hb dX4_init_32 (by decide) ?_
  refine nw_i F K hP hD hS hA (by decide) (N := 2000) (by decide +kernel) (Nat.le_of_ble_eq_true rfl) (Nat.le_of_ble_eq_true rfl) (Nat.le_of_ble_eq_true rfl) dX4_init_35 (fun q4 H hP hD hS => ?_)
  have hP : va_P D vwCl [(h0, .inr (4, [.ref q1, .ref q2, .ref q3, .null, .null, .null, .int 0])), (q1, .inl (cy 1, 2000, .inl (fun _ => 0))), (q2, .inl (cy 1, 2000, .inl (fun _ => 0))), (q3, .inl (cy 1, 2000, .inl (fun _ => 0))), (q4, .inl (cy 1, 2000, .inl (fun _ => 0)))] H := hP
  have hD : va_D A [(h0, .inr (4, [.ref q1, .ref q2, .ref q3, .null, .null, .null, .int 0])), (q1, .inl (cy 1, 2000, .inl (fun _ => 0))), (q2, .inl (cy 1, 2000, .inl (fun _ => 0))), (q3, .inl (cy 1, 2000, .inl (fun _ => 0))), (q4, .inl (cy 1, 2000, .inl (fun _ => 0)))] := hD
  refine va_putF (D := D) (ci := 4) (v := .ref q4) (ty := .array .int) (C := RX4) (T := TX4) (N := 7) F.1 F.2.1 F.2.2.2.2 (fun w h => List.mem_cons_of_mem _ (inG_X4 w h)) tyX4 tyX4_ok nmX4 F.2.2.2.1 K hP hD hS 0 rfl rfl 3 (by decide) (F.2.2.2.2 _ (List.mem_cons_of_mem _ wd109)) (fun _ h => h) rfl hin rfl (by decide +kernel) rfl rfl (Nat.le_of_ble_eq_true rfl) dX4_init_37 (fun H locs hP hD hS => ?_)
  have hP : va_P D vwCl [(h0, .inr (4, [.ref q1, .ref q2, .ref q3, .ref q4, .null, .null, .int 0])), (q1, .inl (cy 1, 2000, .inl (fun _ => 0))), (q2, .inl (cy 1, 2000, .inl (fun _ => 0))), (q3, .inl (cy 1, 2000, .inl (fun _ => 0))), (q4, .inl (cy 1, 2000, .inl (fun _ => 0)))] H := hP
  have hD : va_D A [(h0, .inr (4, [.ref q1, .ref q2, .ref q3, .ref q4, .null, .null, .int 0])), (q1, .inl (cy 1, 2000, .inl (fun _ => 0))), (q2, .inl (cy 1, 2000, .inl (fun _ => 0))), (q3, .inl (cy 1, 2000, .inl (fun _ => 0))), (q4, .inl (cy 1, 2000, .inl (fun _ => 0)))] := hD
  refine lv_aload_n hx hb dX4_init_40 rfl (lv_at hl 0 rfl) ?_
  refine lv_sipush (v := 200) hx hb dX4_init_41 (by decide) ?_
  refine nw_i F K hP hD hS hA (by decide) (N := 200) (by decide +kernel) (Nat.le_of_ble_eq_true rfl) (Nat.le_of_ble_eq_true rfl) (Nat.le_of_ble_eq_true rfl) dX4_init_44 (fun q5 H hP hD hS => ?_)
  have hP : va_P D vwCl [(h0, .inr (4, [.ref q1, .ref q2, .ref q3, .ref q4, .null, .null, .int 0])), (q1, .inl (cy 1, 2000, .inl (fun _ => 0))), (q2, .inl (cy 1, 2000, .inl (fun _ => 0))), (q3, .inl (cy 1, 2000, .inl (fun _ => 0))), (q4, .inl (cy 1, 2000, .inl (fun _ => 0))), (q5, .inl (cy 1, 200, .inl (fun _ => 0)))] H := hP
  have hD : va_D A [(h0, .inr (4, [.ref q1, .ref q2, .ref q3, .ref q4, .null, .null, .int 0])), (q1, .inl (cy 1, 2000, .inl (fun _ => 0))), (q2, .inl (cy 1, 2000, .inl (fun _ => 0))), (q3, .inl (cy 1, 2000, .inl (fun _ => 0))), (q4, .inl (cy 1, 2000, .inl (fun _ => 0))), (q5, .inl (cy 1, 200, .inl (fun _ => 0)))] := hD
  refine va_putF (D := D) (ci := 4) (v := .ref q5) (ty := .array .int) (C := RX4) (T := TX4) (N := 7) F.1 F.2.1 F.2.2.2.2 (fun w h => List.mem_cons_of_mem _ (inG_X4 w h)) tyX4 tyX4_ok nmX4 F.2.2.2.1 K hP hD hS 0 rfl rfl 4 (by decide) (F.2.2.2.2 _ (List.mem_cons_of_mem _ wd101)) (fun _ h => h) rfl hin rfl (by decide +kernel) rfl rfl (Nat.le_of_ble_eq_true rfl) dX4_init_46 (fun H locs hP hD hS => ?_)
  have hP : va_P D vwCl [(h0, .inr (4, [.ref q1, .ref q2, .ref q3, .ref q4, .ref q5, .null, .int 0])), (q1, .inl (cy 1, 2000, .inl (fun _ => 0))), (q2, .inl (cy 1, 2000, .inl (fun _ => 0))), (q3, .inl (cy 1, 2000, .inl (fun _ => 0))), (q4, .inl (cy 1, 2000, .inl (fun _ => 0))), (q5, .inl (cy 1, 200, .inl (fun _ => 0)))] H := hP
  have hD : va_D A [(h0, .inr (4, [.ref q1, .ref q2, .ref q3, .ref q4, .ref q5, .null, .int 0])), (q1, .inl (cy 1, 2000, .inl (fun _ => 0))), (q2, .inl (cy 1, 2000, .inl (fun _ => 0))), (q3, .inl (cy 1, 2000, .inl (fun _ => 0))), (q4, .inl (cy 1, 2000, .inl (fun _ => 0))), (q5, .inl (cy 1, 200, .inl (fun _ => 0)))] := hD
  refine lv_aload_n hx hb dX4_init_49 rfl (lv_at hl 0 rfl) ?_
  refine lv_sipush (v := 200) hx hb dX4_init_50 (by decide) ?_
  refine nw_i F K hP hD hS hA (by decide) (N := 200) (by decide +kernel) (Nat.le_of_ble_eq_true rfl) (Nat.le_of_ble_eq_true rfl) (Nat.le_of_ble_eq_true rfl) dX4_init_53 (fun q6 H hP hD hS => ?_)
  have hP : va_P D vwCl [(h0, .inr (4, [.ref q1, .ref q2, .ref q3, .ref q4, .ref q5, .null, .int 0])), (q1, .inl (cy 1, 2000, .inl (fun _ => 0))), (q2, .inl (cy 1, 2000, .inl (fun _ => 0))), (q3, .inl (cy 1, 2000, .inl (fun _ => 0))), (q4, .inl (cy 1, 2000, .inl (fun _ => 0))), (q5, .inl (cy 1, 200, .inl (fun _ => 0))), (q6, .inl (cy 1, 200, .inl (fun _ => 0)))] H := hP
  have hD : va_D A [(h0, .inr (4, [.ref q1, .ref q2, .ref q3, .ref q4, .ref q5, .null, .int 0])), (q1, .inl (cy 1, 2000, .inl (fun _ => 0))), (q2, .inl (cy 1, 2000, .inl (fun _ => 0))), (q3, .inl (cy 1, 2000, .inl (fun _ => 0))), (q4, .inl (cy 1, 2000, .inl (fun _ => 0))), (q5, .inl (cy 1, 200, .inl (fun _ => 0))), (q6, .inl (cy 1, 200, .inl (fun _ => 0)))] := hD
  refine va_putF (D := D) (ci := 4) (v := .ref q6) (ty := .array .int) (C := RX4) (T := TX4) (N := 7) F.1 F.2.1 F.2.2.2.2 (fun w h => List.mem_cons_of_mem _ (inG_X4 w h)) tyX4 tyX4_ok nmX4 F.2.2.2.1 K hP hD hS 0 rfl rfl 5 (by decide) (F.2.2.2.2 _ (List.mem_cons_of_mem _ wd102)) (fun _ h => h) rfl hin rfl (by decide +kernel) rfl rfl (Nat.le_of_ble_eq_true rfl) dX4_init_55 (fun H locs hP hD hS => ?_)
  have hP : va_P D vwCl [(h0, .inr (4, [.ref q1, .ref q2, .ref q3, .ref q4, .ref q5, .ref q6, .int 0])), (q1, .inl (cy 1, 2000, .inl (fun _ => 0))), (q2, .inl (cy 1, 2000, .inl (fun _ => 0))), (q3, .inl (cy 1, 2000, .inl (fun _ => 0))), (q4, .inl (cy 1, 2000, .inl (fun _ => 0))), (q5, .inl (cy 1, 200, .inl (fun _ => 0))), (q6, .inl (cy 1, 200, .inl (fun _ => 0)))] H := hP
  have hD : va_D A [(h0, .inr (4, [.ref q1, .ref q2, .ref q3, .ref q4, .ref q5, .ref q6, .int 0])), (q1, .inl (cy 1, 2000, .inl (fun _ => 0))), (q2, .inl (cy 1, 2000, .inl (fun _ => 0))), (q3, .inl (cy 1, 2000, .inl (fun _ => 0))), (q4, .inl (cy 1, 2000, .inl (fun _ => 0))), (q5, .inl (cy 1, 200, .inl (fun _ => 0))), (q6, .inl (cy 1, 200, .inl (fun _ => 0)))] := hD
  refine W.widen (k := 6) (n := 8400) (Nat.le_of_ble_eq_true rfl) (Nat.le_of_ble_eq_true rfl) ?_
  exact ret_I (fun k => ([h0, q1, q2, q3, q4, q5, q6] : List Nat).getD k 0) F hr hk rfl hP hD hS dX4_init_58


theorem wd1372 : Cond.methodLink RX5 13 yX7_init ∈ Gw := gT1 (List.mem_of_getElem? (i := 211) rfl) rfl
theorem wd1373 : Cond.code yX6_init prog_8_method_1_code 1 none ∈ Gw := gT1 (List.mem_of_getElem? (i := 216) rfl) rfl
theorem wd1374 : Cond.instanceMethod yX6_init ∈ Gw := gT1 (List.mem_of_getElem? (i := 215) rfl) rfl
theorem wd1375 : Cond.code yX4_init prog_6_method_1_code 1 none ∈ Gw := gT1 (List.mem_of_getElem? (i := 239) rfl) rfl
theorem wd1376 : Cond.instanceMethod yX4_init ∈ Gw := gT1 (List.mem_of_getElem? (i := 238) rfl) rfl
set_option maxRecDepth 100000 in
set_option maxHeartbeats 8000000 in
theorem i_S {l : Launch} {D : va_G} {cy : Nat → ClassId} {ee : EE} {h0 r1 : Nat} : CI l yX5_init cX5_init 2 2 45 22 183876 D cy ee [(h0, .inr (5, [.null, .null, .null, .null, .null, .null, .null, .null, .int 0, .int 0, .int 0, .int 0, .int 0, .int 0]))] h0 (fun u => [((u 0), .inr (5, [.ref r1, .ref (u 1), .ref (u 7), .ref (u 12), .ref (u 19), .ref (u 20), .ref (u 21), .ref (u 22), .int 0, .int 0, .int 0, .int (-3), .int 0, .int (-1)])), ((u 1), .inr (7, [.int 30027, .ref (u 2), .ref (u 3), .ref (u 4), .ref (u 5), .ref (u 6), .int 0])), ((u 2), .inl (cy 1, 30027, .inl (fun _ => 0))), ((u 3), .inl (cy 1, 30027, .inl (fun _ => 0))), ((u 4), .inl (cy 1, 30027, .inl (fun _ => 0))), ((u 5), .inl (cy 1, 30027, .inl (fun _ => 0))), ((u 6), .inl (cy 1, 30027, .inl (fun _ => 0))), ((u 7), .inr (6, [.ref (u 8), .ref (u 9), .ref (u 10), .ref (u 11), .int 0])), ((u 8), .inl (cy 1, 12060, .inl (fun _ => 0))), ((u 9), .inl (cy 1, 12060, .inl (fun _ => 0))), ((u 10), .inl (cy 1, 201, .inl (fun _ => 0))), ((u 11), .inl (cy 1, 201, .inl (fun _ => 0))), ((u 12), .inr (4, [.ref (u 13), .ref (u 14), .ref (u 15), .ref (u 16), .ref (u 17), .ref (u 18), .int 0])), ((u 13), .inl (cy 1, 2000, .inl (fun _ => 0))), ((u 14), .inl (cy 1, 2000, .inl (fun _ => 0))), ((u 15), .inl (cy 1, 2000, .inl (fun _ => 0))), ((u 16), .inl (cy 1, 2000, .inl (fun _ => 0))), ((u 17), .inl (cy 1, 200, .inl (fun _ => 0))), ((u 18), .inl (cy 1, 200, .inl (fun _ => 0))), ((u 19), .inl (cy 1, 200, .inl (fun _ => 0))), ((u 20), .inl (cy 1, 200, .inl (fun _ => 0))), ((u 21), .inl (cy 1, 200, .inl (fun _ => 0))), ((u 22), .inl (cy 1, 200, .inl (fun _ => 0)))]) [.ref h0, .ref r1] := by
  refine CI.of (by decide +kernel) (Nat.le_of_ble_eq_true rfl) ?_
  intro p e s m args below meth c A F hr hk hin K E I hA hP hD hS ls hl
  have hl : lv_has ls 2 [(0, .ref h0), (1, .ref r1)] := hl
  have hx := F.1
  have hb := F.2.1
  have hin : meth.name = "<init>" := hin
  refine lv_aload_n hx hb dX5_init_0 rfl (lv_at hl 0 rfl) ?_
  refine W.objInit hx hb F.2.2.2.1 (F.2.2.2.2 _ (List.mem_cons_of_mem _ oi_X5)) (F.2.2.2.2 _ (List.mem_cons_of_mem _ oi_w1)) (F.2.2.2.2 _ (List.mem_cons_of_mem _ oi_w2)) rfl (by rw [F.2.2.1]; exact hl.1) rfl dX5_init_1 (Nat.le_of_ble_eq_true rfl) (Nat.le_of_ble_eq_true rfl) ?_
  refine W.eq (g2 := F0 m 4 ls []) rfl ?_
  refine lv_aload_n hx hb dX5_init_4 rfl (lv_at hl 0 rfl) ?_
  refine va_new (ci := 7) (fs := [.int 0, .null, .null, .null, .null, .null, .int 0]) (C := RX7) (T := TX7) (N := 7) F.1 F.2.1 F.2.2.2.2 (fun w h => List.mem_cons_of_mem _ (inG_X7 w h)) tyX7 tyX7_ok F.2.2.2.1 (F.2.2.2.2 _ (List.mem_cons_of_mem _ wx2)) (F.2.2.2.2 _ (List.mem_cons_of_mem _ wx1)) (F.2.2.2.2 _ (List.mem_cons_of_mem _ wd60)) K hP hD hS hA rfl (by decide +kernel) (Nat.le_of_ble_eq_true rfl) (Nat.le_of_ble_eq_true rfl) dX5_init_5 (fun q1 H hP hD hS => ?_)
  have hP : va_P D vwCl [(h0, .inr (5, [.null, .null, .null, .null, .null, .null, .null, .null, .int 0, .int 0, .int 0, .int 0, .int 0, .int 0])), (q1, .inr (7, [.int 0, .null, .null, .null, .null, .null, .int 0]))] H := hP
  have hD : va_D A [(h0, .inr (5, [.null, .null, .null, .null, .null, .null, .null, .null, .int 0, .int 0, .int 0, .int 0, .int 0, .int 0])), (q1, .inr (7, [.int 0, .null, .null, .null, .null, .null, .int 0]))] := hD
  refine lv_dup hx hb dX5_init_8 rfl ?_
  refine lv_sipush (v := 30027) hx hb dX5_init_9 (by decide) ?_
  refine call_I (n := 1) (wl := [(h0, .inr (5, [.null, .null, .null, .null, .null, .null, .null, .null, .int 0, .int 0, .int 0, .int 0, .int 0, .int 0]))]) F K E I hA hP hD hS (i_T1 (l := l) (D := D) (cy := cy) (ee := ee)) ⟨wd1369, wd60, wd1372, wd1371⟩  rfl (by decide +kernel) ⟨Nat.le_of_ble_eq_true rfl, Nat.le_of_ble_eq_true rfl⟩ rfl hl.1 (Nat.le_of_ble_eq_true rfl) dX5_init_12 ⟨Nat.le_of_ble_eq_true rfl, Nat.le_of_ble_eq_true rfl⟩ (fun u2 H locs huu2 gP gD gS => ?_)
  obtain rfl : q1 = u2 0 := huu2.symm
  have hP : va_P D vwCl [(h0, .inr (5, [.null, .null, .null, .null, .null, .null, .null, .null, .int 0, .int 0, .int 0, .int 0, .int 0, .int 0])), ((u2 0), .inr (7, [.int 30027, .ref (u2 1), .ref (u2 2), .ref (u2 3), .ref (u2 4), .ref (u2 5), .int 0])), ((u2 1), .inl (cy 1, 30027, .inl (fun _ => 0))), ((u2 2), .inl (cy 1, 30027, .inl (fun _ => 0))), ((u2 3), .inl (cy 1, 30027, .inl (fun _ => 0))), ((u2 4), .inl (cy 1, 30027, .inl (fun _ => 0))), ((u2 5), .inl (cy 1, 30027, .inl (fun _ => 0)))] H := gP
  have hD : va_D A [(h0, .inr (5, [.null, .null, .null, .null, .null, .null, .null, .null, .int 0, .int 0, .int 0, .int 0, .int 0, .int 0])), ((u2 0), .inr (7, [.int 30027, .ref (u2 1), .ref (u2 2), .ref (u2 3), .ref (u2 4), .ref (u2 5), .int 0])), ((u2 1), .inl (cy 1, 30027, .inl (fun _ => 0))), ((u2 2), .inl (cy 1, 30027, .inl (fun _ => 0))), ((u2 3), .inl (cy 1, 30027, .inl (fun _ => 0))), ((u2 4), .inl (cy 1, 30027, .inl (fun _ => 0))), ((u2 5), .inl (cy 1, 30027, .inl (fun _ => 0)))] := gD
  have hS := gS
  refine va_putF (D := D) (ci := 5) (v := .ref (u2 0)) (ty := .object "WorldProver$Terms") (C := RX5) (T := TX5) (N := 14) F.1 F.2.1 F.2.2.2.2 (fun w h => List.mem_cons_of_mem _ (inG_X5 w h)) tyX5 tyX5_ok nmX5 F.2.2.2.1 K hP hD hS 0 rfl rfl 1 (by decide) (F.2.2.2.2 _ (List.mem_cons_of_mem _ wd131)) (fun _ h => h) rfl hin rfl (by decide +kernel) rfl rfl (Nat.le_of_ble_eq_true rfl) dX5_init_15 (fun H locs hP hD hS => ?_)
  have hP : va_P D vwCl [(h0, .inr (5, [.null, .ref (u2 0), .null, .null, .null, .null, .null, .null, .int 0, .int 0, .int 0, .int 0, .int 0, .int 0])), ((u2 0), .inr (7, [.int 30027, .ref (u2 1), .ref (u2 2), .ref (u2 3), .ref (u2 4), .ref (u2 5), .int 0])), ((u2 1), .inl (cy 1, 30027, .inl (fun _ => 0))), ((u2 2), .inl (cy 1, 30027, .inl (fun _ => 0))), ((u2 3), .inl (cy 1, 30027, .inl (fun _ => 0))), ((u2 4), .inl (cy 1, 30027, .inl (fun _ => 0))), ((u2 5), .inl (cy 1, 30027, .inl (fun _ => 0)))] H := hP
  have hD : va_D A [(h0, .inr (5, [.null, .ref (u2 0), .null, .null, .null, .null, .null, .null, .int 0, .int 0, .int 0, .int 0, .int 0, .int 0])), ((u2 0), .inr (7, [.int 30027, .ref (u2 1), .ref (u2 2), .ref (u2 3), .ref (u2 4), .ref (u2 5), .int 0])), ((u2 1), .inl (cy 1, 30027, .inl (fun _ => 0))), ((u2 2), .inl (cy 1, 30027, .inl (fun _ => 0))), ((u2 3), .inl (cy 1, 30027, .inl (fun _ => 0))), ((u2 4), .inl (cy 1, 30027, .inl (fun _ => 0))), ((u2 5), .inl (cy 1, 30027, .inl (fun _ => 0)))] := hD
  refine lv_aload_n hx hb dX5_init_18 rfl (lv_at hl 0 rfl) ?_
  refine va_new (ci := 6) (fs := [.null, .null, .null, .null, .int 0]) (C := RX6) (T := TX6) (N := 5) F.1 F.2.1 F.2.2.2.2 (fun w h => List.mem_cons_of_mem _ (inG_X6 w h)) tyX6 tyX6_ok F.2.2.2.1 (F.2.2.2.2 _ (List.mem_cons_of_mem _ wx3)) (F.2.2.2.2 _ (List.mem_cons_of_mem _ wx4)) (F.2.2.2.2 _ (List.mem_cons_of_mem _ wd78)) K hP hD hS hA rfl (by decide +kernel) (Nat.le_of_ble_eq_true rfl) (Nat.le_of_ble_eq_true rfl) dX5_init_19 (fun q3 H hP hD hS => ?_)
  have hP : va_P D vwCl [(h0, .inr (5, [.null, .ref (u2 0), .null, .null, .null, .null, .null, .null, .int 0, .int 0, .int 0, .int 0, .int 0, .int 0])), ((u2 0), .inr (7, [.int 30027, .ref (u2 1), .ref (u2 2), .ref (u2 3), .ref (u2 4), .ref (u2 5), .int 0])), ((u2 1), .inl (cy 1, 30027, .inl (fun _ => 0))), ((u2 2), .inl (cy 1, 30027, .inl (fun _ => 0))), ((u2 3), .inl (cy 1, 30027, .inl (fun _ => 0))), ((u2 4), .inl (cy 1, 30027, .inl (fun _ => 0))), ((u2 5), .inl (cy 1, 30027, .inl (fun _ => 0))), (q3, .inr (6, [.null, .null, .null, .null, .int 0]))] H := hP
  have hD : va_D A [(h0, .inr (5, [.null, .ref (u2 0), .null, .null, .null, .null, .null, .null, .int 0, .int 0, .int 0, .int 0, .int 0, .int 0])), ((u2 0), .inr (7, [.int 30027, .ref (u2 1), .ref (u2 2), .ref (u2 3), .ref (u2 4), .ref (u2 5), .int 0])), ((u2 1), .inl (cy 1, 30027, .inl (fun _ => 0))), ((u2 2), .inl (cy 1, 30027, .inl (fun _ => 0))), ((u2 3), .inl (cy 1, 30027, .inl (fun _ => 0))), ((u2 4), .inl (cy 1, 30027, .inl (fun _ => 0))), ((u2 5), .inl (cy 1, 30027, .inl (fun _ => 0))), (q3, .inr (6, [.null, .null, .null, .null, .int 0]))] := hD
  refine lv_dup hx hb dX5_init_22 rfl ?_
  refine call_IN (n := 0) (wl := [(h0, .inr (5, [.null, .ref (u2 0), .null, .null, .null, .null, .null, .null, .int 0, .int 0, .int 0, .int 0, .int 0, .int 0])), ((u2 0), .inr (7, [.int 30027, .ref (u2 1), .ref (u2 2), .ref (u2 3), .ref (u2 4), .ref (u2 5), .int 0])), ((u2 1), .inl (cy 1, 30027, .inl (fun _ => 0))), ((u2 2), .inl (cy 1, 30027, .inl (fun _ => 0))), ((u2 3), .inl (cy 1, 30027, .inl (fun _ => 0))), ((u2 4), .inl (cy 1, 30027, .inl (fun _ => 0))), ((u2 5), .inl (cy 1, 30027, .inl (fun _ => 0)))]) F K E I hA hP hD hS (i_Q (l := l) (D := D) (cy := cy) (ee := ee)) ⟨wd1373, wd78, wd1374⟩ (I.2.1) rfl (by decide +kernel) ⟨Nat.le_of_ble_eq_true rfl, Nat.le_of_ble_eq_true rfl⟩ rfl hl.1 (Nat.le_of_ble_eq_true rfl) dX5_init_23 ⟨Nat.le_of_ble_eq_true rfl, Nat.le_of_ble_eq_true rfl⟩ (fun u4 H locs huu4 gP gD gS => ?_)
  obtain rfl : q3 = u4 0 := huu4.symm
  have hP : va_P D vwCl [(h0, .inr (5, [.null, .ref (u2 0), .null, .null, .null, .null, .null, .null, .int 0, .int 0, .int 0, .int 0, .int 0, .int 0])), ((u2 0), .inr (7, [.int 30027, .ref (u2 1), .ref (u2 2), .ref (u2 3), .ref (u2 4), .ref (u2 5), .int 0])), ((u2 1), .inl (cy 1, 30027, .inl (fun _ => 0))), ((u2 2), .inl (cy 1, 30027, .inl (fun _ => 0))), ((u2 3), .inl (cy 1, 30027, .inl (fun _ => 0))), ((u2 4), .inl (cy 1, 30027, .inl (fun _ => 0))), ((u2 5), .inl (cy 1, 30027, .inl (fun _ => 0))), ((u4 0), .inr (6, [.ref (u4 1), .ref (u4 2), .ref (u4 3), .ref (u4 4), .int 0])), ((u4 1), .inl (cy 1, 12060, .inl (fun _ => 0))), ((u4 2), .inl (cy 1, 12060, .inl (fun _ => 0))), ((u4 3), .inl (cy 1, 201, .inl (fun _ => 0))), ((u4 4), .inl (cy 1, 201, .inl (fun _ => 0)))] H := gP
  have hD : va_D A [(h0, .inr (5, [.null, .ref (u2 0), .null, .null, .null, .null, .null, .null, .int 0, .int 0, .int 0, .int 0, .int 0, .int 0])), ((u2 0), .inr (7, [.int 30027, .ref (u2 1), .ref (u2 2), .ref (u2 3), .ref (u2 4), .ref (u2 5), .int 0])), ((u2 1), .inl (cy 1, 30027, .inl (fun _ => 0))), ((u2 2), .inl (cy 1, 30027, .inl (fun _ => 0))), ((u2 3), .inl (cy 1, 30027, .inl (fun _ => 0))), ((u2 4), .inl (cy 1, 30027, .inl (fun _ => 0))), ((u2 5), .inl (cy 1, 30027, .inl (fun _ => 0))), ((u4 0), .inr (6, [.ref (u4 1), .ref (u4 2), .ref (u4 3), .ref (u4 4), .int 0])), ((u4 1), .inl (cy 1, 12060, .inl (fun _ => 0))), ((u4 2), .inl (cy 1, 12060, .inl (fun _ => 0))), ((u4 3), .inl (cy 1, 201, .inl (fun _ => 0))), ((u4 4), .inl (cy 1, 201, .inl (fun _ => 0)))] := gD
  have hS := gS
  refine va_putF (D := D) (ci := 5) (v := .ref (u4 0)) (ty := .object "WorldProver$Sequents") (C := RX5) (T := TX5) (N := 14) F.1 F.2.1 F.2.2.2.2 (fun w h => List.mem_cons_of_mem _ (inG_X5 w h)) tyX5 tyX5_ok nmX5 F.2.2.2.1 K hP hD hS 0 rfl rfl 2 (by decide) (F.2.2.2.2 _ (List.mem_cons_of_mem _ wd133)) (fun _ h => h) rfl hin rfl (by decide +kernel) rfl rfl (Nat.le_of_ble_eq_true rfl) dX5_init_26 (fun H locs hP hD hS => ?_)
  have hP : va_P D vwCl [(h0, .inr (5, [.null, .ref (u2 0), .ref (u4 0), .null, .null, .null, .null, .null, .int 0, .int 0, .int 0, .int 0, .int 0, .int 0])), ((u2 0), .inr (7, [.int 30027, .ref (u2 1), .ref (u2 2), .ref (u2 3), .ref (u2 4), .ref (u2 5), .int 0])), ((u2 1), .inl (cy 1, 30027, .inl (fun _ => 0))), ((u2 2), .inl (cy 1, 30027, .inl (fun _ => 0))), ((u2 3), .inl (cy 1, 30027, .inl (fun _ => 0))), ((u2 4), .inl (cy 1, 30027, .inl (fun _ => 0))), ((u2 5), .inl (cy 1, 30027, .inl (fun _ => 0))), ((u4 0), .inr (6, [.ref (u4 1), .ref (u4 2), .ref (u4 3), .ref (u4 4), .int 0])), ((u4 1), .inl (cy 1, 12060, .inl (fun _ => 0))), ((u4 2), .inl (cy 1, 12060, .inl (fun _ => 0))), ((u4 3), .inl (cy 1, 201, .inl (fun _ => 0))), ((u4 4), .inl (cy 1, 201, .inl (fun _ => 0)))] H := hP
  have hD : va_D A [(h0, .inr (5, [.null, .ref (u2 0), .ref (u4 0), .null, .null, .null, .null, .null, .int 0, .int 0, .int 0, .int 0, .int 0, .int 0])), ((u2 0), .inr (7, [.int 30027, .ref (u2 1), .ref (u2 2), .ref (u2 3), .ref (u2 4), .ref (u2 5), .int 0])), ((u2 1), .inl (cy 1, 30027, .inl (fun _ => 0))), ((u2 2), .inl (cy 1, 30027, .inl (fun _ => 0))), ((u2 3), .inl (cy 1, 30027, .inl (fun _ => 0))), ((u2 4), .inl (cy 1, 30027, .inl (fun _ => 0))), ((u2 5), .inl (cy 1, 30027, .inl (fun _ => 0))), ((u4 0), .inr (6, [.ref (u4 1), .ref (u4 2), .ref (u4 3), .ref (u4 4), .int 0])), ((u4 1), .inl (cy 1, 12060, .inl (fun _ => 0))), ((u4 2), .inl (cy 1, 12060, .inl (fun _ => 0))), ((u4 3), .inl (cy 1, 201, .inl (fun _ => 0))), ((u4 4), .inl (cy 1, 201, .inl (fun _ => 0)))] := hD
  refine lv_aload_n hx hb dX5_init_29 rfl (lv_at hl 0 rfl) ?_
  refine va_new (ci := 4) (fs := [.null, .null, .null, .null, .null, .null, .int 0]) (C := RX4) (T := TX4) (N := 7) F.1 F.2.1 F.2.2.2.2 (fun w h => List.mem_cons_of_mem _ (inG_X4 w h)) tyX4 tyX4_ok F.2.2.2.1 (F.2.2.2.2 _ (List.mem_cons_of_mem _ wx5)) (F.2.2.2.2 _ (List.mem_cons_of_mem _ wx6)) (F.2.2.2.2 _ (List.mem_cons_of_mem _ wd108)) K hP hD hS hA rfl (by decide +kernel) (Nat.le_of_ble_eq_true rfl) (Nat.le_of_ble_eq_true rfl) dX5_init_30 (fun q5 H hP hD hS => ?_)
  have hP : va_P D vwCl [(h0, .inr (5, [.null, .ref (u2 0), .ref (u4 0), .null, .null, .null, .null, .null, .int 0, .int 0, .int 0, .int 0, .int 0, .int 0])), ((u2 0), .inr (7, [.int 30027, .ref (u2 1), .ref (u2 2), .ref (u2 3), .ref (u2 4), .ref (u2 5), .int 0])), ((u2 1), .inl (cy 1, 30027, .inl (fun _ => 0))), ((u2 2), .inl (cy 1, 30027, .inl (fun _ => 0))), ((u2 3), .inl (cy 1, 30027, .inl (fun _ => 0))), ((u2 4), .inl (cy 1, 30027, .inl (fun _ => 0))), ((u2 5), .inl (cy 1, 30027, .inl (fun _ => 0))), ((u4 0), .inr (6, [.ref (u4 1), .ref (u4 2), .ref (u4 3), .ref (u4 4), .int 0])), ((u4 1), .inl (cy 1, 12060, .inl (fun _ => 0))), ((u4 2), .inl (cy 1, 12060, .inl (fun _ => 0))), ((u4 3), .inl (cy 1, 201, .inl (fun _ => 0))), ((u4 4), .inl (cy 1, 201, .inl (fun _ => 0))), (q5, .inr (4, [.null, .null, .null, .null, .null, .null, .int 0]))] H := hP
  have hD : va_D A [(h0, .inr (5, [.null, .ref (u2 0), .ref (u4 0), .null, .null, .null, .null, .null, .int 0, .int 0, .int 0, .int 0, .int 0, .int 0])), ((u2 0), .inr (7, [.int 30027, .ref (u2 1), .ref (u2 2), .ref (u2 3), .ref (u2 4), .ref (u2 5), .int 0])), ((u2 1), .inl (cy 1, 30027, .inl (fun _ => 0))), ((u2 2), .inl (cy 1, 30027, .inl (fun _ => 0))), ((u2 3), .inl (cy 1, 30027, .inl (fun _ => 0))), ((u2 4), .inl (cy 1, 30027, .inl (fun _ => 0))), ((u2 5), .inl (cy 1, 30027, .inl (fun _ => 0))), ((u4 0), .inr (6, [.ref (u4 1), .ref (u4 2), .ref (u4 3), .ref (u4 4), .int 0])), ((u4 1), .inl (cy 1, 12060, .inl (fun _ => 0))), ((u4 2), .inl (cy 1, 12060, .inl (fun _ => 0))), ((u4 3), .inl (cy 1, 201, .inl (fun _ => 0))), ((u4 4), .inl (cy 1, 201, .inl (fun _ => 0))), (q5, .inr (4, [.null, .null, .null, .null, .null, .null, .int 0]))] := hD
  refine lv_dup hx hb dX5_init_33 rfl ?_
  refine call_IN (n := 0) (wl := [(h0, .inr (5, [.null, .ref (u2 0), .ref (u4 0), .null, .null, .null, .null, .null, .int 0, .int 0, .int 0, .int 0, .int 0, .int 0])), ((u2 0), .inr (7, [.int 30027, .ref (u2 1), .ref (u2 2), .ref (u2 3), .ref (u2 4), .ref (u2 5), .int 0])), ((u2 1), .inl (cy 1, 30027, .inl (fun _ => 0))), ((u2 2), .inl (cy 1, 30027, .inl (fun _ => 0))), ((u2 3), .inl (cy 1, 30027, .inl (fun _ => 0))), ((u2 4), .inl (cy 1, 30027, .inl (fun _ => 0))), ((u2 5), .inl (cy 1, 30027, .inl (fun _ => 0))), ((u4 0), .inr (6, [.ref (u4 1), .ref (u4 2), .ref (u4 3), .ref (u4 4), .int 0])), ((u4 1), .inl (cy 1, 12060, .inl (fun _ => 0))), ((u4 2), .inl (cy 1, 12060, .inl (fun _ => 0))), ((u4 3), .inl (cy 1, 201, .inl (fun _ => 0))), ((u4 4), .inl (cy 1, 201, .inl (fun _ => 0)))]) F K E I hA hP hD hS (i_U (l := l) (D := D) (cy := cy) (ee := ee)) ⟨wd1375, wd108, wd1376⟩ (I.2.2) rfl (by decide +kernel) ⟨Nat.le_of_ble_eq_true rfl, Nat.le_of_ble_eq_true rfl⟩ rfl hl.1 (Nat.le_of_ble_eq_true rfl) dX5_init_34 ⟨Nat.le_of_ble_eq_true rfl, Nat.le_of_ble_eq_true rfl⟩ (fun u6 H locs huu6 gP gD gS => ?_)
  obtain rfl : q5 = u6 0 := huu6.symm
  have hP : va_P D vwCl [(h0, .inr (5, [.null, .ref (u2 0), .ref (u4 0), .null, .null, .null, .null, .null, .int 0, .int 0, .int 0, .int 0, .int 0, .int 0])), ((u2 0), .inr (7, [.int 30027, .ref (u2 1), .ref (u2 2), .ref (u2 3), .ref (u2 4), .ref (u2 5), .int 0])), ((u2 1), .inl (cy 1, 30027, .inl (fun _ => 0))), ((u2 2), .inl (cy 1, 30027, .inl (fun _ => 0))), ((u2 3), .inl (cy 1, 30027, .inl (fun _ => 0))), ((u2 4), .inl (cy 1, 30027, .inl (fun _ => 0))), ((u2 5), .inl (cy 1, 30027, .inl (fun _ => 0))), ((u4 0), .inr (6, [.ref (u4 1), .ref (u4 2), .ref (u4 3), .ref (u4 4), .int 0])), ((u4 1), .inl (cy 1, 12060, .inl (fun _ => 0))), ((u4 2), .inl (cy 1, 12060, .inl (fun _ => 0))), ((u4 3), .inl (cy 1, 201, .inl (fun _ => 0))), ((u4 4), .inl (cy 1, 201, .inl (fun _ => 0))), ((u6 0), .inr (4, [.ref (u6 1), .ref (u6 2), .ref (u6 3), .ref (u6 4), .ref (u6 5), .ref (u6 6), .int 0])), ((u6 1), .inl (cy 1, 2000, .inl (fun _ => 0))), ((u6 2), .inl (cy 1, 2000, .inl (fun _ => 0))), ((u6 3), .inl (cy 1, 2000, .inl (fun _ => 0))), ((u6 4), .inl (cy 1, 2000, .inl (fun _ => 0))), ((u6 5), .inl (cy 1, 200, .inl (fun _ => 0))), ((u6 6), .inl (cy 1, 200, .inl (fun _ => 0)))] H := gP
  have hD : va_D A [(h0, .inr (5, [.null, .ref (u2 0), .ref (u4 0), .null, .null, .null, .null, .null, .int 0, .int 0, .int 0, .int 0, .int 0, .int 0])), ((u2 0), .inr (7, [.int 30027, .ref (u2 1), .ref (u2 2), .ref (u2 3), .ref (u2 4), .ref (u2 5), .int 0])), ((u2 1), .inl (cy 1, 30027, .inl (fun _ => 0))), ((u2 2), .inl (cy 1, 30027, .inl (fun _ => 0))), ((u2 3), .inl (cy 1, 30027, .inl (fun _ => 0))), ((u2 4), .inl (cy 1, 30027, .inl (fun _ => 0))), ((u2 5), .inl (cy 1, 30027, .inl (fun _ => 0))), ((u4 0), .inr (6, [.ref (u4 1), .ref (u4 2), .ref (u4 3), .ref (u4 4), .int 0])), ((u4 1), .inl (cy 1, 12060, .inl (fun _ => 0))), ((u4 2), .inl (cy 1, 12060, .inl (fun _ => 0))), ((u4 3), .inl (cy 1, 201, .inl (fun _ => 0))), ((u4 4), .inl (cy 1, 201, .inl (fun _ => 0))), ((u6 0), .inr (4, [.ref (u6 1), .ref (u6 2), .ref (u6 3), .ref (u6 4), .ref (u6 5), .ref (u6 6), .int 0])), ((u6 1), .inl (cy 1, 2000, .inl (fun _ => 0))), ((u6 2), .inl (cy 1, 2000, .inl (fun _ => 0))), ((u6 3), .inl (cy 1, 2000, .inl (fun _ => 0))), ((u6 4), .inl (cy 1, 2000, .inl (fun _ => 0))), ((u6 5), .inl (cy 1, 200, .inl (fun _ => 0))), ((u6 6), .inl (cy 1, 200, .inl (fun _ => 0)))] := gD
  have hS := gS
  refine va_putF (D := D) (ci := 5) (v := .ref (u6 0)) (ty := .object "WorldProver$Refutations") (C := RX5) (T := TX5) (N := 14) F.1 F.2.1 F.2.2.2.2 (fun w h => List.mem_cons_of_mem _ (inG_X5 w h)) tyX5 tyX5_ok nmX5 F.2.2.2.1 K hP hD hS 0 rfl rfl 3 (by decide) (F.2.2.2.2 _ (List.mem_cons_of_mem _ wd132)) (fun _ h => h) rfl hin rfl (by decide +kernel) rfl rfl (Nat.le_of_ble_eq_true rfl) dX5_init_37 (fun H locs hP hD hS => ?_)
  have hP : va_P D vwCl [(h0, .inr (5, [.null, .ref (u2 0), .ref (u4 0), .ref (u6 0), .null, .null, .null, .null, .int 0, .int 0, .int 0, .int 0, .int 0, .int 0])), ((u2 0), .inr (7, [.int 30027, .ref (u2 1), .ref (u2 2), .ref (u2 3), .ref (u2 4), .ref (u2 5), .int 0])), ((u2 1), .inl (cy 1, 30027, .inl (fun _ => 0))), ((u2 2), .inl (cy 1, 30027, .inl (fun _ => 0))), ((u2 3), .inl (cy 1, 30027, .inl (fun _ => 0))), ((u2 4), .inl (cy 1, 30027, .inl (fun _ => 0))), ((u2 5), .inl (cy 1, 30027, .inl (fun _ => 0))), ((u4 0), .inr (6, [.ref (u4 1), .ref (u4 2), .ref (u4 3), .ref (u4 4), .int 0])), ((u4 1), .inl (cy 1, 12060, .inl (fun _ => 0))), ((u4 2), .inl (cy 1, 12060, .inl (fun _ => 0))), ((u4 3), .inl (cy 1, 201, .inl (fun _ => 0))), ((u4 4), .inl (cy 1, 201, .inl (fun _ => 0))), ((u6 0), .inr (4, [.ref (u6 1), .ref (u6 2), .ref (u6 3), .ref (u6 4), .ref (u6 5), .ref (u6 6), .int 0])), ((u6 1), .inl (cy 1, 2000, .inl (fun _ => 0))), ((u6 2), .inl (cy 1, 2000, .inl (fun _ => 0))), ((u6 3), .inl (cy 1, 2000, .inl (fun _ => 0))), ((u6 4), .inl (cy 1, 2000, .inl (fun _ => 0))), ((u6 5), .inl (cy 1, 200, .inl (fun _ => 0))), ((u6 6), .inl (cy 1, 200, .inl (fun _ => 0)))] H := hP
  have hD : va_D A [(h0, .inr (5, [.null, .ref (u2 0), .ref (u4 0), .ref (u6 0), .null, .null, .null, .null, .int 0, .int 0, .int 0, .int 0, .int 0, .int 0])), ((u2 0), .inr (7, [.int 30027, .ref (u2 1), .ref (u2 2), .ref (u2 3), .ref (u2 4), .ref (u2 5), .int 0])), ((u2 1), .inl (cy 1, 30027, .inl (fun _ => 0))), ((u2 2), .inl (cy 1, 30027, .inl (fun _ => 0))), ((u2 3), .inl (cy 1, 30027, .inl (fun _ => 0))), ((u2 4), .inl (cy 1, 30027, .inl (fun _ => 0))), ((u2 5), .inl (cy 1, 30027, .inl (fun _ => 0))), ((u4 0), .inr (6, [.ref (u4 1), .ref (u4 2), .ref (u4 3), .ref (u4 4), .int 0])), ((u4 1), .inl (cy 1, 12060, .inl (fun _ => 0))), ((u4 2), .inl (cy 1, 12060, .inl (fun _ => 0))), ((u4 3), .inl (cy 1, 201, .inl (fun _ => 0))), ((u4 4), .inl (cy 1, 201, .inl (fun _ => 0))), ((u6 0), .inr (4, [.ref (u6 1), .ref (u6 2), .ref (u6 3), .ref (u6 4), .ref (u6 5), .ref (u6 6), .int 0])), ((u6 1), .inl (cy 1, 2000, .inl (fun _ => 0))), ((u6 2), .inl (cy 1, 2000, .inl (fun _ => 0))), ((u6 3), .inl (cy 1, 2000, .inl (fun _ => 0))), ((u6 4), .inl (cy 1, 2000, .inl (fun _ => 0))), ((u6 5), .inl (cy 1, 200, .inl (fun _ => 0))), ((u6 6), .inl (cy 1, 200, .inl (fun _ => 0)))] := hD
  refine lv_aload_n hx hb dX5_init_40 rfl (lv_at hl 0 rfl) ?_
  refine lv_sipush (v := 200) hx hb dX5_init_41 (by decide) ?_
  refine nw_i F K hP hD hS hA (by decide) (N := 200) (by decide +kernel) (Nat.le_of_ble_eq_true rfl) (Nat.le_of_ble_eq_true rfl) (Nat.le_of_ble_eq_true rfl) dX5_init_44 (fun q7 H hP hD hS => ?_)
  have hP : va_P D vwCl [(h0, .inr (5, [.null, .ref (u2 0), .ref (u4 0), .ref (u6 0), .null, .null, .null, .null, .int 0, .int 0, .int 0, .int 0, .int 0, .int 0])), ((u2 0), .inr (7, [.int 30027, .ref (u2 1), .ref (u2 2), .ref (u2 3), .ref (u2 4), .ref (u2 5), .int 0])), ((u2 1), .inl (cy 1, 30027, .inl (fun _ => 0))), ((u2 2), .inl (cy 1, 30027, .inl (fun _ => 0))), ((u2 3), .inl (cy 1, 30027, .inl (fun _ => 0))), ((u2 4), .inl (cy 1, 30027, .inl (fun _ => 0))), ((u2 5), .inl (cy 1, 30027, .inl (fun _ => 0))), ((u4 0), .inr (6, [.ref (u4 1), .ref (u4 2), .ref (u4 3), .ref (u4 4), .int 0])), ((u4 1), .inl (cy 1, 12060, .inl (fun _ => 0))), ((u4 2), .inl (cy 1, 12060, .inl (fun _ => 0))), ((u4 3), .inl (cy 1, 201, .inl (fun _ => 0))), ((u4 4), .inl (cy 1, 201, .inl (fun _ => 0))), ((u6 0), .inr (4, [.ref (u6 1), .ref (u6 2), .ref (u6 3), .ref (u6 4), .ref (u6 5), .ref (u6 6), .int 0])), ((u6 1), .inl (cy 1, 2000, .inl (fun _ => 0))), ((u6 2), .inl (cy 1, 2000, .inl (fun _ => 0))), ((u6 3), .inl (cy 1, 2000, .inl (fun _ => 0))), ((u6 4), .inl (cy 1, 2000, .inl (fun _ => 0))), ((u6 5), .inl (cy 1, 200, .inl (fun _ => 0))), ((u6 6), .inl (cy 1, 200, .inl (fun _ => 0))), (q7, .inl (cy 1, 200, .inl (fun _ => 0)))] H := hP
  have hD : va_D A [(h0, .inr (5, [.null, .ref (u2 0), .ref (u4 0), .ref (u6 0), .null, .null, .null, .null, .int 0, .int 0, .int 0, .int 0, .int 0, .int 0])), ((u2 0), .inr (7, [.int 30027, .ref (u2 1), .ref (u2 2), .ref (u2 3), .ref (u2 4), .ref (u2 5), .int 0])), ((u2 1), .inl (cy 1, 30027, .inl (fun _ => 0))), ((u2 2), .inl (cy 1, 30027, .inl (fun _ => 0))), ((u2 3), .inl (cy 1, 30027, .inl (fun _ => 0))), ((u2 4), .inl (cy 1, 30027, .inl (fun _ => 0))), ((u2 5), .inl (cy 1, 30027, .inl (fun _ => 0))), ((u4 0), .inr (6, [.ref (u4 1), .ref (u4 2), .ref (u4 3), .ref (u4 4), .int 0])), ((u4 1), .inl (cy 1, 12060, .inl (fun _ => 0))), ((u4 2), .inl (cy 1, 12060, .inl (fun _ => 0))), ((u4 3), .inl (cy 1, 201, .inl (fun _ => 0))), ((u4 4), .inl (cy 1, 201, .inl (fun _ => 0))), ((u6 0), .inr (4, [.ref (u6 1), .ref (u6 2), .ref (u6 3), .ref (u6 4), .ref (u6 5), .ref (u6 6), .int 0])), ((u6 1), .inl (cy 1, 2000, .inl (fun _ => 0))), ((u6 2), .inl (cy 1, 2000, .inl (fun _ => 0))), ((u6 3), .inl (cy 1, 2000, .inl (fun _ => 0))), ((u6 4), .inl (cy 1, 2000, .inl (fun _ => 0))), ((u6 5), .inl (cy 1, 200, .inl (fun _ => 0))), ((u6 6), .inl (cy 1, 200, .inl (fun _ => 0))), (q7, .inl (cy 1, 200, .inl (fun _ => 0)))] := hD
  refine va_putF (D := D) (ci := 5) (v := .ref q7) (ty := .array .int) (C := RX5) (T := TX5) (N := 14) F.1 F.2.1 F.2.2.2.2 (fun w h => List.mem_cons_of_mem _ (inG_X5 w h)) tyX5 tyX5_ok nmX5 F.2.2.2.1 K hP hD hS 0 rfl rfl 4 (by decide) (F.2.2.2.2 _ (List.mem_cons_of_mem _ wd135)) (fun _ h => h) rfl hin rfl (by decide +kernel) rfl rfl (Nat.le_of_ble_eq_true rfl) dX5_init_46 (fun H locs hP hD hS => ?_)
  have hP : va_P D vwCl [(h0, .inr (5, [.null, .ref (u2 0), .ref (u4 0), .ref (u6 0), .ref q7, .null, .null, .null, .int 0, .int 0, .int 0, .int 0, .int 0, .int 0])), ((u2 0), .inr (7, [.int 30027, .ref (u2 1), .ref (u2 2), .ref (u2 3), .ref (u2 4), .ref (u2 5), .int 0])), ((u2 1), .inl (cy 1, 30027, .inl (fun _ => 0))), ((u2 2), .inl (cy 1, 30027, .inl (fun _ => 0))), ((u2 3), .inl (cy 1, 30027, .inl (fun _ => 0))), ((u2 4), .inl (cy 1, 30027, .inl (fun _ => 0))), ((u2 5), .inl (cy 1, 30027, .inl (fun _ => 0))), ((u4 0), .inr (6, [.ref (u4 1), .ref (u4 2), .ref (u4 3), .ref (u4 4), .int 0])), ((u4 1), .inl (cy 1, 12060, .inl (fun _ => 0))), ((u4 2), .inl (cy 1, 12060, .inl (fun _ => 0))), ((u4 3), .inl (cy 1, 201, .inl (fun _ => 0))), ((u4 4), .inl (cy 1, 201, .inl (fun _ => 0))), ((u6 0), .inr (4, [.ref (u6 1), .ref (u6 2), .ref (u6 3), .ref (u6 4), .ref (u6 5), .ref (u6 6), .int 0])), ((u6 1), .inl (cy 1, 2000, .inl (fun _ => 0))), ((u6 2), .inl (cy 1, 2000, .inl (fun _ => 0))), ((u6 3), .inl (cy 1, 2000, .inl (fun _ => 0))), ((u6 4), .inl (cy 1, 2000, .inl (fun _ => 0))), ((u6 5), .inl (cy 1, 200, .inl (fun _ => 0))), ((u6 6), .inl (cy 1, 200, .inl (fun _ => 0))), (q7, .inl (cy 1, 200, .inl (fun _ => 0)))] H := hP
  have hD : va_D A [(h0, .inr (5, [.null, .ref (u2 0), .ref (u4 0), .ref (u6 0), .ref q7, .null, .null, .null, .int 0, .int 0, .int 0, .int 0, .int 0, .int 0])), ((u2 0), .inr (7, [.int 30027, .ref (u2 1), .ref (u2 2), .ref (u2 3), .ref (u2 4), .ref (u2 5), .int 0])), ((u2 1), .inl (cy 1, 30027, .inl (fun _ => 0))), ((u2 2), .inl (cy 1, 30027, .inl (fun _ => 0))), ((u2 3), .inl (cy 1, 30027, .inl (fun _ => 0))), ((u2 4), .inl (cy 1, 30027, .inl (fun _ => 0))), ((u2 5), .inl (cy 1, 30027, .inl (fun _ => 0))), ((u4 0), .inr (6, [.ref (u4 1), .ref (u4 2), .ref (u4 3), .ref (u4 4), .int 0])), ((u4 1), .inl (cy 1, 12060, .inl (fun _ => 0))), ((u4 2), .inl (cy 1, 12060, .inl (fun _ => 0))), ((u4 3), .inl (cy 1, 201, .inl (fun _ => 0))), ((u4 4), .inl (cy 1, 201, .inl (fun _ => 0))), ((u6 0), .inr (4, [.ref (u6 1), .ref (u6 2), .ref (u6 3), .ref (u6 4), .ref (u6 5), .ref (u6 6), .int 0])), ((u6 1), .inl (cy 1, 2000, .inl (fun _ => 0))), ((u6 2), .inl (cy 1, 2000, .inl (fun _ => 0))), ((u6 3), .inl (cy 1, 2000, .inl (fun _ => 0))), ((u6 4), .inl (cy 1, 2000, .inl (fun _ => 0))), ((u6 5), .inl (cy 1, 200, .inl (fun _ => 0))), ((u6 6), .inl (cy 1, 200, .inl (fun _ => 0))), (q7, .inl (cy 1, 200, .inl (fun _ => 0)))] := hD
  refine lv_aload_n hx hb dX5_init_49 rfl (lv_at hl 0 rfl) ?_
  refine lv_sipush (v := 200) hx hb dX5_init_50 (by decide) ?_
  refine nw_i F K hP hD hS hA (by decide) (N := 200) (by decide +kernel) (Nat.le_of_ble_eq_true rfl) (Nat.le_of_ble_eq_true rfl) (Nat.le_of_ble_eq_true rfl) dX5_init_53 (fun q8 H hP hD hS => ?_)
  have hP : va_P D vwCl [(h0, .inr (5, [.null, .ref (u2 0), .ref (u4 0), .ref (u6 0), .ref q7, .null, .null, .null, .int 0, .int 0, .int 0, .int 0, .int 0, .int 0])), ((u2 0), .inr (7, [.int 30027, .ref (u2 1), .ref (u2 2), .ref (u2 3), .ref (u2 4), .ref (u2 5), .int 0])), ((u2 1), .inl (cy 1, 30027, .inl (fun _ => 0))), ((u2 2), .inl (cy 1, 30027, .inl (fun _ => 0))), ((u2 3), .inl (cy 1, 30027, .inl (fun _ => 0))), ((u2 4), .inl (cy 1, 30027, .inl (fun _ => 0))), ((u2 5), .inl (cy 1, 30027, .inl (fun _ => 0))), ((u4 0), .inr (6, [.ref (u4 1), .ref (u4 2), .ref (u4 3), .ref (u4 4), .int 0])), ((u4 1), .inl (cy 1, 12060, .inl (fun _ => 0))), ((u4 2), .inl (cy 1, 12060, .inl (fun _ => 0))), ((u4 3), .inl (cy 1, 201, .inl (fun _ => 0))), ((u4 4), .inl (cy 1, 201, .inl (fun _ => 0))), ((u6 0), .inr (4, [.ref (u6 1), .ref (u6 2), .ref (u6 3), .ref (u6 4), .ref (u6 5), .ref (u6 6), .int 0])), ((u6 1), .inl (cy 1, 2000, .inl (fun _ => 0))), ((u6 2), .inl (cy 1, 2000, .inl (fun _ => 0))), ((u6 3), .inl (cy 1, 2000, .inl (fun _ => 0))), ((u6 4), .inl (cy 1, 2000, .inl (fun _ => 0))), ((u6 5), .inl (cy 1, 200, .inl (fun _ => 0))), ((u6 6), .inl (cy 1, 200, .inl (fun _ => 0))), (q7, .inl (cy 1, 200, .inl (fun _ => 0))), (q8, .inl (cy 1, 200, .inl (fun _ => 0)))] H := hP
  have hD : va_D A [(h0, .inr (5, [.null, .ref (u2 0), .ref (u4 0), .ref (u6 0), .ref q7, .null, .null, .null, .int 0, .int 0, .int 0, .int 0, .int 0, .int 0])), ((u2 0), .inr (7, [.int 30027, .ref (u2 1), .ref (u2 2), .ref (u2 3), .ref (u2 4), .ref (u2 5), .int 0])), ((u2 1), .inl (cy 1, 30027, .inl (fun _ => 0))), ((u2 2), .inl (cy 1, 30027, .inl (fun _ => 0))), ((u2 3), .inl (cy 1, 30027, .inl (fun _ => 0))), ((u2 4), .inl (cy 1, 30027, .inl (fun _ => 0))), ((u2 5), .inl (cy 1, 30027, .inl (fun _ => 0))), ((u4 0), .inr (6, [.ref (u4 1), .ref (u4 2), .ref (u4 3), .ref (u4 4), .int 0])), ((u4 1), .inl (cy 1, 12060, .inl (fun _ => 0))), ((u4 2), .inl (cy 1, 12060, .inl (fun _ => 0))), ((u4 3), .inl (cy 1, 201, .inl (fun _ => 0))), ((u4 4), .inl (cy 1, 201, .inl (fun _ => 0))), ((u6 0), .inr (4, [.ref (u6 1), .ref (u6 2), .ref (u6 3), .ref (u6 4), .ref (u6 5), .ref (u6 6), .int 0])), ((u6 1), .inl (cy 1, 2000, .inl (fun _ => 0))), ((u6 2), .inl (cy 1, 2000, .inl (fun _ => 0))), ((u6 3), .inl (cy 1, 2000, .inl (fun _ => 0))), ((u6 4), .inl (cy 1, 2000, .inl (fun _ => 0))), ((u6 5), .inl (cy 1, 200, .inl (fun _ => 0))), ((u6 6), .inl (cy 1, 200, .inl (fun _ => 0))), (q7, .inl (cy 1, 200, .inl (fun _ => 0))), (q8, .inl (cy 1, 200, .inl (fun _ => 0)))] := hD
  refine va_putF (D := D) (ci := 5) (v := .ref q8) (ty := .array .int) (C := RX5) (T := TX5) (N := 14) F.1 F.2.1 F.2.2.2.2 (fun w h => List.mem_cons_of_mem _ (inG_X5 w h)) tyX5 tyX5_ok nmX5 F.2.2.2.1 K hP hD hS 0 rfl rfl 5 (by decide) (F.2.2.2.2 _ (List.mem_cons_of_mem _ wd137)) (fun _ h => h) rfl hin rfl (by decide +kernel) rfl rfl (Nat.le_of_ble_eq_true rfl) dX5_init_55 (fun H locs hP hD hS => ?_)
  have hP : va_P D vwCl [(h0, .inr (5, [.null, .ref (u2 0), .ref (u4 0), .ref (u6 0), .ref q7, .ref q8, .null, .null, .int 0, .int 0, .int 0, .int 0, .int 0, .int 0])), ((u2 0), .inr (7, [.int 30027, .ref (u2 1), .ref (u2 2), .ref (u2 3), .ref (u2 4), .ref (u2 5), .int 0])), ((u2 1), .inl (cy 1, 30027, .inl (fun _ => 0))), ((u2 2), .inl (cy 1, 30027, .inl (fun _ => 0))), ((u2 3), .inl (cy 1, 30027, .inl (fun _ => 0))), ((u2 4), .inl (cy 1, 30027, .inl (fun _ => 0))), ((u2 5), .inl (cy 1, 30027, .inl (fun _ => 0))), ((u4 0), .inr (6, [.ref (u4 1), .ref (u4 2), .ref (u4 3), .ref (u4 4), .int 0])), ((u4 1), .inl (cy 1, 12060, .inl (fun _ => 0))), ((u4 2), .inl (cy 1, 12060, .inl (fun _ => 0))), ((u4 3), .inl (cy 1, 201, .inl (fun _ => 0))), ((u4 4), .inl (cy 1, 201, .inl (fun _ => 0))), ((u6 0), .inr (4, [.ref (u6 1), .ref (u6 2), .ref (u6 3), .ref (u6 4), .ref (u6 5), .ref (u6 6), .int 0])), ((u6 1), .inl (cy 1, 2000, .inl (fun _ => 0))), ((u6 2), .inl (cy 1, 2000, .inl (fun _ => 0))), ((u6 3), .inl (cy 1, 2000, .inl (fun _ => 0))), ((u6 4), .inl (cy 1, 2000, .inl (fun _ => 0))), ((u6 5), .inl (cy 1, 200, .inl (fun _ => 0))), ((u6 6), .inl (cy 1, 200, .inl (fun _ => 0))), (q7, .inl (cy 1, 200, .inl (fun _ => 0))), (q8, .inl (cy 1, 200, .inl (fun _ => 0)))] H := hP
  have hD : va_D A [(h0, .inr (5, [.null, .ref (u2 0), .ref (u4 0), .ref (u6 0), .ref q7, .ref q8, .null, .null, .int 0, .int 0, .int 0, .int 0, .int 0, .int 0])), ((u2 0), .inr (7, [.int 30027, .ref (u2 1), .ref (u2 2), .ref (u2 3), .ref (u2 4), .ref (u2 5), .int 0])), ((u2 1), .inl (cy 1, 30027, .inl (fun _ => 0))), ((u2 2), .inl (cy 1, 30027, .inl (fun _ => 0))), ((u2 3), .inl (cy 1, 30027, .inl (fun _ => 0))), ((u2 4), .inl (cy 1, 30027, .inl (fun _ => 0))), ((u2 5), .inl (cy 1, 30027, .inl (fun _ => 0))), ((u4 0), .inr (6, [.ref (u4 1), .ref (u4 2), .ref (u4 3), .ref (u4 4), .int 0])), ((u4 1), .inl (cy 1, 12060, .inl (fun _ => 0))), ((u4 2), .inl (cy 1, 12060, .inl (fun _ => 0))), ((u4 3), .inl (cy 1, 201, .inl (fun _ => 0))), ((u4 4), .inl (cy 1, 201, .inl (fun _ => 0))), ((u6 0), .inr (4, [.ref (u6 1), .ref (u6 2), .ref (u6 3), .ref (u6 4), .ref (u6 5), .ref (u6 6), .int 0])), ((u6 1), .inl (cy 1, 2000, .inl (fun _ => 0))), ((u6 2), .inl (cy 1, 2000, .inl (fun _ => 0))), ((u6 3), .inl (cy 1, 2000, .inl (fun _ => 0))), ((u6 4), .inl (cy 1, 2000, .inl (fun _ => 0))), ((u6 5), .inl (cy 1, 200, .inl (fun _ => 0))), ((u6 6), .inl (cy 1, 200, .inl (fun _ => 0))), (q7, .inl (cy 1, 200, .inl (fun _ => 0))), (q8, .inl (cy 1, 200, .inl (fun _ => 0)))] := hD
  refine lv_aload_n hx hb dX5_init_58 rfl (lv_at hl 0 rfl) ?_
  refine lv_sipush (v := 200) hx hb dX5_init_59 (by decide) ?_
  refine nw_i F K hP hD hS hA (by decide) (N := 200) (by decide +kernel) (Nat.le_of_ble_eq_true rfl) (Nat.le_of_ble_eq_true rfl) (Nat.le_of_ble_eq_true rfl) dX5_init_62 (fun q9 H hP hD hS => ?_)
  have hP : va_P D vwCl [(h0, .inr (5, [.null, .ref (u2 0), .ref (u4 0), .ref (u6 0), .ref q7, .ref q8, .null, .null, .int 0, .int 0, .int 0, .int 0, .int 0, .int 0])), ((u2 0), .inr (7, [.int 30027, .ref (u2 1), .ref (u2 2), .ref (u2 3), .ref (u2 4), .ref (u2 5), .int 0])), ((u2 1), .inl (cy 1, 30027, .inl (fun _ => 0))), ((u2 2), .inl (cy 1, 30027, .inl (fun _ => 0))), ((u2 3), .inl (cy 1, 30027, .inl (fun _ => 0))), ((u2 4), .inl (cy 1, 30027, .inl (fun _ => 0))), ((u2 5), .inl (cy 1, 30027, .inl (fun _ => 0))), ((u4 0), .inr (6, [.ref (u4 1), .ref (u4 2), .ref (u4 3), .ref (u4 4), .int 0])), ((u4 1), .inl (cy 1, 12060, .inl (fun _ => 0))), ((u4 2), .inl (cy 1, 12060, .inl (fun _ => 0))), ((u4 3), .inl (cy 1, 201, .inl (fun _ => 0))), ((u4 4), .inl (cy 1, 201, .inl (fun _ => 0))), ((u6 0), .inr (4, [.ref (u6 1), .ref (u6 2), .ref (u6 3), .ref (u6 4), .ref (u6 5), .ref (u6 6), .int 0])), ((u6 1), .inl (cy 1, 2000, .inl (fun _ => 0))), ((u6 2), .inl (cy 1, 2000, .inl (fun _ => 0))), ((u6 3), .inl (cy 1, 2000, .inl (fun _ => 0))), ((u6 4), .inl (cy 1, 2000, .inl (fun _ => 0))), ((u6 5), .inl (cy 1, 200, .inl (fun _ => 0))), ((u6 6), .inl (cy 1, 200, .inl (fun _ => 0))), (q7, .inl (cy 1, 200, .inl (fun _ => 0))), (q8, .inl (cy 1, 200, .inl (fun _ => 0))), (q9, .inl (cy 1, 200, .inl (fun _ => 0)))] H := hP
  have hD : va_D A [(h0, .inr (5, [.null, .ref (u2 0), .ref (u4 0), .ref (u6 0), .ref q7, .ref q8, .null, .null, .int 0, .int 0, .int 0, .int 0, .int 0, .int 0])), ((u2 0), .inr (7, [.int 30027, .ref (u2 1), .ref (u2 2), .ref (u2 3), .ref (u2 4), .ref (u2 5), .int 0])), ((u2 1), .inl (cy 1, 30027, .inl (fun _ => 0))), ((u2 2), .inl (cy 1, 30027, .inl (fun _ => 0))), ((u2 3), .inl (cy 1, 30027, .inl (fun _ => 0))), ((u2 4), .inl (cy 1, 30027, .inl (fun _ => 0))), ((u2 5), .inl (cy 1, 30027, .inl (fun _ => 0))), ((u4 0), .inr (6, [.ref (u4 1), .ref (u4 2), .ref (u4 3), .ref (u4 4), .int 0])), ((u4 1), .inl (cy 1, 12060, .inl (fun _ => 0))), ((u4 2), .inl (cy 1, 12060, .inl (fun _ => 0))), ((u4 3), .inl (cy 1, 201, .inl (fun _ => 0))), ((u4 4), .inl (cy 1, 201, .inl (fun _ => 0))), ((u6 0), .inr (4, [.ref (u6 1), .ref (u6 2), .ref (u6 3), .ref (u6 4), .ref (u6 5), .ref (u6 6), .int 0])), ((u6 1), .inl (cy 1, 2000, .inl (fun _ => 0))), ((u6 2), .inl (cy 1, 2000, .inl (fun _ => 0))), ((u6 3), .inl (cy 1, 2000, .inl (fun _ => 0))), ((u6 4), .inl (cy 1, 2000, .inl (fun _ => 0))), ((u6 5), .inl (cy 1, 200, .inl (fun _ => 0))), ((u6 6), .inl (cy 1, 200, .inl (fun _ => 0))), (q7, .inl (cy 1, 200, .inl (fun _ => 0))), (q8, .inl (cy 1, 200, .inl (fun _ => 0))), (q9, .inl (cy 1, 200, .inl (fun _ => 0)))] := hD
  refine va_putF (D := D) (ci := 5) (v := .ref q9) (ty := .array .int) (C := RX5) (T := TX5) (N := 14) F.1 F.2.1 F.2.2.2.2 (fun w h => List.mem_cons_of_mem _ (inG_X5 w h)) tyX5 tyX5_ok nmX5 F.2.2.2.1 K hP hD hS 0 rfl rfl 6 (by decide) (F.2.2.2.2 _ (List.mem_cons_of_mem _ wd227)) (fun _ h => h) rfl hin rfl (by decide +kernel) rfl rfl (Nat.le_of_ble_eq_true rfl) dX5_init_64 (fun H locs hP hD hS => ?_)
  have hP : va_P D vwCl [(h0, .inr (5, [.null, .ref (u2 0), .ref (u4 0), .ref (u6 0), .ref q7, .ref q8, .ref q9, .null, .int 0, .int 0, .int 0, .int 0, .int 0, .int 0])), ((u2 0), .inr (7, [.int 30027, .ref (u2 1), .ref (u2 2), .ref (u2 3), .ref (u2 4), .ref (u2 5), .int 0])), ((u2 1), .inl (cy 1, 30027, .inl (fun _ => 0))), ((u2 2), .inl (cy 1, 30027, .inl (fun _ => 0))), ((u2 3), .inl (cy 1, 30027, .inl (fun _ => 0))), ((u2 4), .inl (cy 1, 30027, .inl (fun _ => 0))), ((u2 5), .inl (cy 1, 30027, .inl (fun _ => 0))), ((u4 0), .inr (6, [.ref (u4 1), .ref (u4 2), .ref (u4 3), .ref (u4 4), .int 0])), ((u4 1), .inl (cy 1, 12060, .inl (fun _ => 0))), ((u4 2), .inl (cy 1, 12060, .inl (fun _ => 0))), ((u4 3), .inl (cy 1, 201, .inl (fun _ => 0))), ((u4 4), .inl (cy 1, 201, .inl (fun _ => 0))), ((u6 0), .inr (4, [.ref (u6 1), .ref (u6 2), .ref (u6 3), .ref (u6 4), .ref (u6 5), .ref (u6 6), .int 0])), ((u6 1), .inl (cy 1, 2000, .inl (fun _ => 0))), ((u6 2), .inl (cy 1, 2000, .inl (fun _ => 0))), ((u6 3), .inl (cy 1, 2000, .inl (fun _ => 0))), ((u6 4), .inl (cy 1, 2000, .inl (fun _ => 0))), ((u6 5), .inl (cy 1, 200, .inl (fun _ => 0))), ((u6 6), .inl (cy 1, 200, .inl (fun _ => 0))), (q7, .inl (cy 1, 200, .inl (fun _ => 0))), (q8, .inl (cy 1, 200, .inl (fun _ => 0))), (q9, .inl (cy 1, 200, .inl (fun _ => 0)))] H := hP
  have hD : va_D A [(h0, .inr (5, [.null, .ref (u2 0), .ref (u4 0), .ref (u6 0), .ref q7, .ref q8, .ref q9, .null, .int 0, .int 0, .int 0, .int 0, .int 0, .int 0])), ((u2 0), .inr (7, [.int 30027, .ref (u2 1), .ref (u2 2), .ref (u2 3), .ref (u2 4), .ref (u2 5), .int 0])), ((u2 1), .inl (cy 1, 30027, .inl (fun _ => 0))), ((u2 2), .inl (cy 1, 30027, .inl (fun _ => 0))), ((u2 3), .inl (cy 1, 30027, .inl (fun _ => 0))), ((u2 4), .inl (cy 1, 30027, .inl (fun _ => 0))), ((u2 5), .inl (cy 1, 30027, .inl (fun _ => 0))), ((u4 0), .inr (6, [.ref (u4 1), .ref (u4 2), .ref (u4 3), .ref (u4 4), .int 0])), ((u4 1), .inl (cy 1, 12060, .inl (fun _ => 0))), ((u4 2), .inl (cy 1, 12060, .inl (fun _ => 0))), ((u4 3), .inl (cy 1, 201, .inl (fun _ => 0))), ((u4 4), .inl (cy 1, 201, .inl (fun _ => 0))), ((u6 0), .inr (4, [.ref (u6 1), .ref (u6 2), .ref (u6 3), .ref (u6 4), .ref (u6 5), .ref (u6 6), .int 0])), ((u6 1), .inl (cy 1, 2000, .inl (fun _ => 0))), ((u6 2), .inl (cy 1, 2000, .inl (fun _ => 0))), ((u6 3), .inl (cy 1, 2000, .inl (fun _ => 0))), ((u6 4), .inl (cy 1, 2000, .inl (fun _ => 0))), ((u6 5), .inl (cy 1, 200, .inl (fun _ => 0))), ((u6 6), .inl (cy 1, 200, .inl (fun _ => 0))), (q7, .inl (cy 1, 200, .inl (fun _ => 0))), (q8, .inl (cy 1, 200, .inl (fun _ => 0))), (q9, .inl (cy 1, 200, .inl (fun _ => 0)))] := hD
  refine lv_aload_n hx hb dX5_init_67 rfl (lv_at hl 0 rfl) ?_
  refine lv_sipush (v := 200) hx hb dX5_init_68 (by decide) ?_
  refine nw_i F K hP hD hS hA (by decide) (N := 200) (by decide +kernel) (Nat.le_of_ble_eq_true rfl) (Nat.le_of_ble_eq_true rfl) (Nat.le_of_ble_eq_true rfl) dX5_init_71 (fun q10 H hP hD hS => ?_)
  have hP : va_P D vwCl [(h0, .inr (5, [.null, .ref (u2 0), .ref (u4 0), .ref (u6 0), .ref q7, .ref q8, .ref q9, .null, .int 0, .int 0, .int 0, .int 0, .int 0, .int 0])), ((u2 0), .inr (7, [.int 30027, .ref (u2 1), .ref (u2 2), .ref (u2 3), .ref (u2 4), .ref (u2 5), .int 0])), ((u2 1), .inl (cy 1, 30027, .inl (fun _ => 0))), ((u2 2), .inl (cy 1, 30027, .inl (fun _ => 0))), ((u2 3), .inl (cy 1, 30027, .inl (fun _ => 0))), ((u2 4), .inl (cy 1, 30027, .inl (fun _ => 0))), ((u2 5), .inl (cy 1, 30027, .inl (fun _ => 0))), ((u4 0), .inr (6, [.ref (u4 1), .ref (u4 2), .ref (u4 3), .ref (u4 4), .int 0])), ((u4 1), .inl (cy 1, 12060, .inl (fun _ => 0))), ((u4 2), .inl (cy 1, 12060, .inl (fun _ => 0))), ((u4 3), .inl (cy 1, 201, .inl (fun _ => 0))), ((u4 4), .inl (cy 1, 201, .inl (fun _ => 0))), ((u6 0), .inr (4, [.ref (u6 1), .ref (u6 2), .ref (u6 3), .ref (u6 4), .ref (u6 5), .ref (u6 6), .int 0])), ((u6 1), .inl (cy 1, 2000, .inl (fun _ => 0))), ((u6 2), .inl (cy 1, 2000, .inl (fun _ => 0))), ((u6 3), .inl (cy 1, 2000, .inl (fun _ => 0))), ((u6 4), .inl (cy 1, 2000, .inl (fun _ => 0))), ((u6 5), .inl (cy 1, 200, .inl (fun _ => 0))), ((u6 6), .inl (cy 1, 200, .inl (fun _ => 0))), (q7, .inl (cy 1, 200, .inl (fun _ => 0))), (q8, .inl (cy 1, 200, .inl (fun _ => 0))), (q9, .inl (cy 1, 200, .inl (fun _ => 0))), (q10, .inl (cy 1, 200, .inl (fun _ => 0)))] H := hP
  have hD : va_D A [(h0, .inr (5, [.null, .ref (u2 0), .ref (u4 0), .ref (u6 0), .ref q7, .ref q8, .ref q9, .null, .int 0, .int 0, .int 0, .int 0, .int 0, .int 0])), ((u2 0), .inr (7, [.int 30027, .ref (u2 1), .ref (u2 2), .ref (u2 3), .ref (u2 4), .ref (u2 5), .int 0])), ((u2 1), .inl (cy 1, 30027, .inl (fun _ => 0))), ((u2 2), .inl (cy 1, 30027, .inl (fun _ => 0))), ((u2 3), .inl (cy 1, 30027, .inl (fun _ => 0))), ((u2 4), .inl (cy 1, 30027, .inl (fun _ => 0))), ((u2 5), .inl (cy 1, 30027, .inl (fun _ => 0))), ((u4 0), .inr (6, [.ref (u4 1), .ref (u4 2), .ref (u4 3), .ref (u4 4), .int 0])), ((u4 1), .inl (cy 1, 12060, .inl (fun _ => 0))), ((u4 2), .inl (cy 1, 12060, .inl (fun _ => 0))), ((u4 3), .inl (cy 1, 201, .inl (fun _ => 0))), ((u4 4), .inl (cy 1, 201, .inl (fun _ => 0))), ((u6 0), .inr (4, [.ref (u6 1), .ref (u6 2), .ref (u6 3), .ref (u6 4), .ref (u6 5), .ref (u6 6), .int 0])), ((u6 1), .inl (cy 1, 2000, .inl (fun _ => 0))), ((u6 2), .inl (cy 1, 2000, .inl (fun _ => 0))), ((u6 3), .inl (cy 1, 2000, .inl (fun _ => 0))), ((u6 4), .inl (cy 1, 2000, .inl (fun _ => 0))), ((u6 5), .inl (cy 1, 200, .inl (fun _ => 0))), ((u6 6), .inl (cy 1, 200, .inl (fun _ => 0))), (q7, .inl (cy 1, 200, .inl (fun _ => 0))), (q8, .inl (cy 1, 200, .inl (fun _ => 0))), (q9, .inl (cy 1, 200, .inl (fun _ => 0))), (q10, .inl (cy 1, 200, .inl (fun _ => 0)))] := hD
  refine va_putF (D := D) (ci := 5) (v := .ref q10) (ty := .array .int) (C := RX5) (T := TX5) (N := 14) F.1 F.2.1 F.2.2.2.2 (fun w h => List.mem_cons_of_mem _ (inG_X5 w h)) tyX5 tyX5_ok nmX5 F.2.2.2.1 K hP hD hS 0 rfl rfl 7 (by decide) (F.2.2.2.2 _ (List.mem_cons_of_mem _ wd158)) (fun _ h => h) rfl hin rfl (by decide +kernel) rfl rfl (Nat.le_of_ble_eq_true rfl) dX5_init_73 (fun H locs hP hD hS => ?_)
  have hP : va_P D vwCl [(h0, .inr (5, [.null, .ref (u2 0), .ref (u4 0), .ref (u6 0), .ref q7, .ref q8, .ref q9, .ref q10, .int 0, .int 0, .int 0, .int 0, .int 0, .int 0])), ((u2 0), .inr (7, [.int 30027, .ref (u2 1), .ref (u2 2), .ref (u2 3), .ref (u2 4), .ref (u2 5), .int 0])), ((u2 1), .inl (cy 1, 30027, .inl (fun _ => 0))), ((u2 2), .inl (cy 1, 30027, .inl (fun _ => 0))), ((u2 3), .inl (cy 1, 30027, .inl (fun _ => 0))), ((u2 4), .inl (cy 1, 30027, .inl (fun _ => 0))), ((u2 5), .inl (cy 1, 30027, .inl (fun _ => 0))), ((u4 0), .inr (6, [.ref (u4 1), .ref (u4 2), .ref (u4 3), .ref (u4 4), .int 0])), ((u4 1), .inl (cy 1, 12060, .inl (fun _ => 0))), ((u4 2), .inl (cy 1, 12060, .inl (fun _ => 0))), ((u4 3), .inl (cy 1, 201, .inl (fun _ => 0))), ((u4 4), .inl (cy 1, 201, .inl (fun _ => 0))), ((u6 0), .inr (4, [.ref (u6 1), .ref (u6 2), .ref (u6 3), .ref (u6 4), .ref (u6 5), .ref (u6 6), .int 0])), ((u6 1), .inl (cy 1, 2000, .inl (fun _ => 0))), ((u6 2), .inl (cy 1, 2000, .inl (fun _ => 0))), ((u6 3), .inl (cy 1, 2000, .inl (fun _ => 0))), ((u6 4), .inl (cy 1, 2000, .inl (fun _ => 0))), ((u6 5), .inl (cy 1, 200, .inl (fun _ => 0))), ((u6 6), .inl (cy 1, 200, .inl (fun _ => 0))), (q7, .inl (cy 1, 200, .inl (fun _ => 0))), (q8, .inl (cy 1, 200, .inl (fun _ => 0))), (q9, .inl (cy 1, 200, .inl (fun _ => 0))), (q10, .inl (cy 1, 200, .inl (fun _ => 0)))] H := hP
  have hD : va_D A [(h0, .inr (5, [.null, .ref (u2 0), .ref (u4 0), .ref (u6 0), .ref q7, .ref q8, .ref q9, .ref q10, .int 0, .int 0, .int 0, .int 0, .int 0, .int 0])), ((u2 0), .inr (7, [.int 30027, .ref (u2 1), .ref (u2 2), .ref (u2 3), .ref (u2 4), .ref (u2 5), .int 0])), ((u2 1), .inl (cy 1, 30027, .inl (fun _ => 0))), ((u2 2), .inl (cy 1, 30027, .inl (fun _ => 0))), ((u2 3), .inl (cy 1, 30027, .inl (fun _ => 0))), ((u2 4), .inl (cy 1, 30027, .inl (fun _ => 0))), ((u2 5), .inl (cy 1, 30027, .inl (fun _ => 0))), ((u4 0), .inr (6, [.ref (u4 1), .ref (u4 2), .ref (u4 3), .ref (u4 4), .int 0])), ((u4 1), .inl (cy 1, 12060, .inl (fun _ => 0))), ((u4 2), .inl (cy 1, 12060, .inl (fun _ => 0))), ((u4 3), .inl (cy 1, 201, .inl (fun _ => 0))), ((u4 4), .inl (cy 1, 201, .inl (fun _ => 0))), ((u6 0), .inr (4, [.ref (u6 1), .ref (u6 2), .ref (u6 3), .ref (u6 4), .ref (u6 5), .ref (u6 6), .int 0])), ((u6 1), .inl (cy 1, 2000, .inl (fun _ => 0))), ((u6 2), .inl (cy 1, 2000, .inl (fun _ => 0))), ((u6 3), .inl (cy 1, 2000, .inl (fun _ => 0))), ((u6 4), .inl (cy 1, 2000, .inl (fun _ => 0))), ((u6 5), .inl (cy 1, 200, .inl (fun _ => 0))), ((u6 6), .inl (cy 1, 200, .inl (fun _ => 0))), (q7, .inl (cy 1, 200, .inl (fun _ => 0))), (q8, .inl (cy 1, 200, .inl (fun _ => 0))), (q9, .inl (cy 1, 200, .inl (fun _ => 0))), (q10, .inl (cy 1, 200, .inl (fun _ => 0)))] := hD
  refine lv_aload_n hx hb dX5_init_76 rfl (lv_at hl 0 rfl) ?_
  refine lv_bipush (v := -3) hx hb dX5_init_77 (by decide) ?_
  refine va_put (D := D) (ci := 5) (v := .int (-3)) (ty := .int) (C := RX5) (T := TX5) (N := 14) F.1 F.2.1 F.2.2.2.2 (fun w h => List.mem_cons_of_mem _ (inG_X5 w h)) tyX5 tyX5_ok nmX5 F.2.2.2.1 K hP hD hS 0 rfl rfl 11 (by decide) (F.2.2.2.2 _ (List.mem_cons_of_mem _ wd134)) (fun _ h => h) rfl (by decide +kernel) rfl rfl (Nat.le_of_ble_eq_true rfl) dX5_init_79 (fun H locs hP hD hS => ?_)
  have hP : va_P D vwCl [(h0, .inr (5, [.null, .ref (u2 0), .ref (u4 0), .ref (u6 0), .ref q7, .ref q8, .ref q9, .ref q10, .int 0, .int 0, .int 0, .int (-3), .int 0, .int 0])), ((u2 0), .inr (7, [.int 30027, .ref (u2 1), .ref (u2 2), .ref (u2 3), .ref (u2 4), .ref (u2 5), .int 0])), ((u2 1), .inl (cy 1, 30027, .inl (fun _ => 0))), ((u2 2), .inl (cy 1, 30027, .inl (fun _ => 0))), ((u2 3), .inl (cy 1, 30027, .inl (fun _ => 0))), ((u2 4), .inl (cy 1, 30027, .inl (fun _ => 0))), ((u2 5), .inl (cy 1, 30027, .inl (fun _ => 0))), ((u4 0), .inr (6, [.ref (u4 1), .ref (u4 2), .ref (u4 3), .ref (u4 4), .int 0])), ((u4 1), .inl (cy 1, 12060, .inl (fun _ => 0))), ((u4 2), .inl (cy 1, 12060, .inl (fun _ => 0))), ((u4 3), .inl (cy 1, 201, .inl (fun _ => 0))), ((u4 4), .inl (cy 1, 201, .inl (fun _ => 0))), ((u6 0), .inr (4, [.ref (u6 1), .ref (u6 2), .ref (u6 3), .ref (u6 4), .ref (u6 5), .ref (u6 6), .int 0])), ((u6 1), .inl (cy 1, 2000, .inl (fun _ => 0))), ((u6 2), .inl (cy 1, 2000, .inl (fun _ => 0))), ((u6 3), .inl (cy 1, 2000, .inl (fun _ => 0))), ((u6 4), .inl (cy 1, 2000, .inl (fun _ => 0))), ((u6 5), .inl (cy 1, 200, .inl (fun _ => 0))), ((u6 6), .inl (cy 1, 200, .inl (fun _ => 0))), (q7, .inl (cy 1, 200, .inl (fun _ => 0))), (q8, .inl (cy 1, 200, .inl (fun _ => 0))), (q9, .inl (cy 1, 200, .inl (fun _ => 0))), (q10, .inl (cy 1, 200, .inl (fun _ => 0)))] H := hP
  have hD : va_D A [(h0, .inr (5, [.null, .ref (u2 0), .ref (u4 0), .ref (u6 0), .ref q7, .ref q8, .ref q9, .ref q10, .int 0, .int 0, .int 0, .int (-3), .int 0, .int 0])), ((u2 0), .inr (7, [.int 30027, .ref (u2 1), .ref (u2 2), .ref (u2 3), .ref (u2 4), .ref (u2 5), .int 0])), ((u2 1), .inl (cy 1, 30027, .inl (fun _ => 0))), ((u2 2), .inl (cy 1, 30027, .inl (fun _ => 0))), ((u2 3), .inl (cy 1, 30027, .inl (fun _ => 0))), ((u2 4), .inl (cy 1, 30027, .inl (fun _ => 0))), ((u2 5), .inl (cy 1, 30027, .inl (fun _ => 0))), ((u4 0), .inr (6, [.ref (u4 1), .ref (u4 2), .ref (u4 3), .ref (u4 4), .int 0])), ((u4 1), .inl (cy 1, 12060, .inl (fun _ => 0))), ((u4 2), .inl (cy 1, 12060, .inl (fun _ => 0))), ((u4 3), .inl (cy 1, 201, .inl (fun _ => 0))), ((u4 4), .inl (cy 1, 201, .inl (fun _ => 0))), ((u6 0), .inr (4, [.ref (u6 1), .ref (u6 2), .ref (u6 3), .ref (u6 4), .ref (u6 5), .ref (u6 6), .int 0])), ((u6 1), .inl (cy 1, 2000, .inl (fun _ => 0))), ((u6 2), .inl (cy 1, 2000, .inl (fun _ => 0))), ((u6 3), .inl (cy 1, 2000, .inl (fun _ => 0))), ((u6 4), .inl (cy 1, 2000, .inl (fun _ => 0))), ((u6 5), .inl (cy 1, 200, .inl (fun _ => 0))), ((u6 6), .inl (cy 1, 200, .inl (fun _ => 0))), (q7, .inl (cy 1, 200, .inl (fun _ => 0))), (q8, .inl (cy 1, 200, .inl (fun _ => 0))), (q9, .inl (cy 1, 200, .inl (fun _ => 0))), (q10, .inl (cy 1, 200, .inl (fun _ => 0)))] := hD
  refine lv_aload_n hx hb dX5_init_82 rfl (lv_at hl 0 rfl) ?_
  refine lv_iconst (v := -1) hx hb dX5_init_83 (by decide) ?_
  refine va_put (D := D) (ci := 5) (v := .int (-1)) (ty := .int) (C := RX5) (T := TX5) (N := 14) F.1 F.2.1 F.2.2.2.2 (fun w h => List.mem_cons_of_mem _ (inG_X5 w h)) tyX5 tyX5_ok nmX5 F.2.2.2.1 K hP hD hS 0 rfl rfl 13 (by decide) (F.2.2.2.2 _ (List.mem_cons_of_mem _ wd130)) (fun _ h => h) rfl (by decide +kernel) rfl rfl (Nat.le_of_ble_eq_true rfl) dX5_init_84 (fun H locs hP hD hS => ?_)
  have hP : va_P D vwCl [(h0, .inr (5, [.null, .ref (u2 0), .ref (u4 0), .ref (u6 0), .ref q7, .ref q8, .ref q9, .ref q10, .int 0, .int 0, .int 0, .int (-3), .int 0, .int (-1)])), ((u2 0), .inr (7, [.int 30027, .ref (u2 1), .ref (u2 2), .ref (u2 3), .ref (u2 4), .ref (u2 5), .int 0])), ((u2 1), .inl (cy 1, 30027, .inl (fun _ => 0))), ((u2 2), .inl (cy 1, 30027, .inl (fun _ => 0))), ((u2 3), .inl (cy 1, 30027, .inl (fun _ => 0))), ((u2 4), .inl (cy 1, 30027, .inl (fun _ => 0))), ((u2 5), .inl (cy 1, 30027, .inl (fun _ => 0))), ((u4 0), .inr (6, [.ref (u4 1), .ref (u4 2), .ref (u4 3), .ref (u4 4), .int 0])), ((u4 1), .inl (cy 1, 12060, .inl (fun _ => 0))), ((u4 2), .inl (cy 1, 12060, .inl (fun _ => 0))), ((u4 3), .inl (cy 1, 201, .inl (fun _ => 0))), ((u4 4), .inl (cy 1, 201, .inl (fun _ => 0))), ((u6 0), .inr (4, [.ref (u6 1), .ref (u6 2), .ref (u6 3), .ref (u6 4), .ref (u6 5), .ref (u6 6), .int 0])), ((u6 1), .inl (cy 1, 2000, .inl (fun _ => 0))), ((u6 2), .inl (cy 1, 2000, .inl (fun _ => 0))), ((u6 3), .inl (cy 1, 2000, .inl (fun _ => 0))), ((u6 4), .inl (cy 1, 2000, .inl (fun _ => 0))), ((u6 5), .inl (cy 1, 200, .inl (fun _ => 0))), ((u6 6), .inl (cy 1, 200, .inl (fun _ => 0))), (q7, .inl (cy 1, 200, .inl (fun _ => 0))), (q8, .inl (cy 1, 200, .inl (fun _ => 0))), (q9, .inl (cy 1, 200, .inl (fun _ => 0))), (q10, .inl (cy 1, 200, .inl (fun _ => 0)))] H := hP
  have hD : va_D A [(h0, .inr (5, [.null, .ref (u2 0), .ref (u4 0), .ref (u6 0), .ref q7, .ref q8, .ref q9, .ref q10, .int 0, .int 0, .int 0, .int (-3), .int 0, .int (-1)])), ((u2 0), .inr (7, [.int 30027, .ref (u2 1), .ref (u2 2), .ref (u2 3), .ref (u2 4), .ref (u2 5), .int 0])), ((u2 1), .inl (cy 1, 30027, .inl (fun _ => 0))), ((u2 2), .inl (cy 1, 30027, .inl (fun _ => 0))), ((u2 3), .inl (cy 1, 30027, .inl (fun _ => 0))), ((u2 4), .inl (cy 1, 30027, .inl (fun _ => 0))), ((u2 5), .inl (cy 1, 30027, .inl (fun _ => 0))), ((u4 0), .inr (6, [.ref (u4 1), .ref (u4 2), .ref (u4 3), .ref (u4 4), .int 0])), ((u4 1), .inl (cy 1, 12060, .inl (fun _ => 0))), ((u4 2), .inl (cy 1, 12060, .inl (fun _ => 0))), ((u4 3), .inl (cy 1, 201, .inl (fun _ => 0))), ((u4 4), .inl (cy 1, 201, .inl (fun _ => 0))), ((u6 0), .inr (4, [.ref (u6 1), .ref (u6 2), .ref (u6 3), .ref (u6 4), .ref (u6 5), .ref (u6 6), .int 0])), ((u6 1), .inl (cy 1, 2000, .inl (fun _ => 0))), ((u6 2), .inl (cy 1, 2000, .inl (fun _ => 0))), ((u6 3), .inl (cy 1, 2000, .inl (fun _ => 0))), ((u6 4), .inl (cy 1, 2000, .inl (fun _ => 0))), ((u6 5), .inl (cy 1, 200, .inl (fun _ => 0))), ((u6 6), .inl (cy 1, 200, .inl (fun _ => 0))), (q7, .inl (cy 1, 200, .inl (fun _ => 0))), (q8, .inl (cy 1, 200, .inl (fun _ => 0))), (q9, .inl (cy 1, 200, .inl (fun _ => 0))), (q10, .inl (cy 1, 200, .inl (fun _ => 0)))] := hD
  refine lv_aload_n hx hb dX5_init_87 rfl (lv_at hl 0 rfl) ?_
  refine lv_aload_n hx hb dX5_init_88 rfl (lv_at hl 1 rfl) ?_
  refine va_putF (D := D) (ci := 5) (v := .ref r1) (ty := .object "WorldProver$Formulas") (C := RX5) (T := TX5) (N := 14) F.1 F.2.1 F.2.2.2.2 (fun w h => List.mem_cons_of_mem _ (inG_X5 w h)) tyX5 tyX5_ok nmX5 F.2.2.2.1 K hP hD hS 0 rfl rfl 0 (by decide) (F.2.2.2.2 _ (List.mem_cons_of_mem _ wd136)) (fun _ h => h) rfl hin rfl (by decide +kernel) rfl rfl (Nat.le_of_ble_eq_true rfl) dX5_init_89 (fun H locs hP hD hS => ?_)
  have hP : va_P D vwCl [(h0, .inr (5, [.ref r1, .ref (u2 0), .ref (u4 0), .ref (u6 0), .ref q7, .ref q8, .ref q9, .ref q10, .int 0, .int 0, .int 0, .int (-3), .int 0, .int (-1)])), ((u2 0), .inr (7, [.int 30027, .ref (u2 1), .ref (u2 2), .ref (u2 3), .ref (u2 4), .ref (u2 5), .int 0])), ((u2 1), .inl (cy 1, 30027, .inl (fun _ => 0))), ((u2 2), .inl (cy 1, 30027, .inl (fun _ => 0))), ((u2 3), .inl (cy 1, 30027, .inl (fun _ => 0))), ((u2 4), .inl (cy 1, 30027, .inl (fun _ => 0))), ((u2 5), .inl (cy 1, 30027, .inl (fun _ => 0))), ((u4 0), .inr (6, [.ref (u4 1), .ref (u4 2), .ref (u4 3), .ref (u4 4), .int 0])), ((u4 1), .inl (cy 1, 12060, .inl (fun _ => 0))), ((u4 2), .inl (cy 1, 12060, .inl (fun _ => 0))), ((u4 3), .inl (cy 1, 201, .inl (fun _ => 0))), ((u4 4), .inl (cy 1, 201, .inl (fun _ => 0))), ((u6 0), .inr (4, [.ref (u6 1), .ref (u6 2), .ref (u6 3), .ref (u6 4), .ref (u6 5), .ref (u6 6), .int 0])), ((u6 1), .inl (cy 1, 2000, .inl (fun _ => 0))), ((u6 2), .inl (cy 1, 2000, .inl (fun _ => 0))), ((u6 3), .inl (cy 1, 2000, .inl (fun _ => 0))), ((u6 4), .inl (cy 1, 2000, .inl (fun _ => 0))), ((u6 5), .inl (cy 1, 200, .inl (fun _ => 0))), ((u6 6), .inl (cy 1, 200, .inl (fun _ => 0))), (q7, .inl (cy 1, 200, .inl (fun _ => 0))), (q8, .inl (cy 1, 200, .inl (fun _ => 0))), (q9, .inl (cy 1, 200, .inl (fun _ => 0))), (q10, .inl (cy 1, 200, .inl (fun _ => 0)))] H := hP
  have hD : va_D A [(h0, .inr (5, [.ref r1, .ref (u2 0), .ref (u4 0), .ref (u6 0), .ref q7, .ref q8, .ref q9, .ref q10, .int 0, .int 0, .int 0, .int (-3), .int 0, .int (-1)])), ((u2 0), .inr (7, [.int 30027, .ref (u2 1), .ref (u2 2), .ref (u2 3), .ref (u2 4), .ref (u2 5), .int 0])), ((u2 1), .inl (cy 1, 30027, .inl (fun _ => 0))), ((u2 2), .inl (cy 1, 30027, .inl (fun _ => 0))), ((u2 3), .inl (cy 1, 30027, .inl (fun _ => 0))), ((u2 4), .inl (cy 1, 30027, .inl (fun _ => 0))), ((u2 5), .inl (cy 1, 30027, .inl (fun _ => 0))), ((u4 0), .inr (6, [.ref (u4 1), .ref (u4 2), .ref (u4 3), .ref (u4 4), .int 0])), ((u4 1), .inl (cy 1, 12060, .inl (fun _ => 0))), ((u4 2), .inl (cy 1, 12060, .inl (fun _ => 0))), ((u4 3), .inl (cy 1, 201, .inl (fun _ => 0))), ((u4 4), .inl (cy 1, 201, .inl (fun _ => 0))), ((u6 0), .inr (4, [.ref (u6 1), .ref (u6 2), .ref (u6 3), .ref (u6 4), .ref (u6 5), .ref (u6 6), .int 0])), ((u6 1), .inl (cy 1, 2000, .inl (fun _ => 0))), ((u6 2), .inl (cy 1, 2000, .inl (fun _ => 0))), ((u6 3), .inl (cy 1, 2000, .inl (fun _ => 0))), ((u6 4), .inl (cy 1, 2000, .inl (fun _ => 0))), ((u6 5), .inl (cy 1, 200, .inl (fun _ => 0))), ((u6 6), .inl (cy 1, 200, .inl (fun _ => 0))), (q7, .inl (cy 1, 200, .inl (fun _ => 0))), (q8, .inl (cy 1, 200, .inl (fun _ => 0))), (q9, .inl (cy 1, 200, .inl (fun _ => 0))), (q10, .inl (cy 1, 200, .inl (fun _ => 0)))] := hD
  refine W.widen (k := 22) (n := 183876) (Nat.le_of_ble_eq_true rfl) (Nat.le_of_ble_eq_true rfl) ?_
  exact ret_I (fun k => ([h0, (u2 0), (u2 1), (u2 2), (u2 3), (u2 4), (u2 5), (u4 0), (u4 1), (u4 2), (u4 3), (u4 4), (u6 0), (u6 1), (u6 2), (u6 3), (u6 4), (u6 5), (u6 6), q7, q8, q9, q10] : List Nat).getD k 0) F hr hk rfl hP hD hS dX5_init_92


theorem wd1377 : Cond.code yX1_init prog_3_method_1_code 2 none ∈ Gw := gT1 (List.mem_of_getElem? (i := 67) rfl) rfl
theorem wd1378 : Cond.methodLink RX0 11 yX1_init ∈ Gw := gT2 (List.mem_of_getElem? (i := 81) rfl) rfl
theorem wd1379 : Cond.instanceMethod yX1_init ∈ Gw := gT1 (List.mem_of_getElem? (i := 66) rfl) rfl
set_option maxRecDepth 100000 in
set_option maxHeartbeats 8000000 in
theorem i_C {l : Launch} {D : va_G} {cy : Nat → ClassId} {ee : EE} {h0 r1 r2 : Nat} : CI l yX0_init cX0_init 3 3 72 8 13117 D cy ee [(h0, .inr (0, [.null, .null, .null, .null]))] h0 (fun u => [((u 0), .inr (0, [.ref r1, .ref r2, .ref (u 1), .ref (u 8)])), ((u 1), .inr (1, [.int 3000, .ref (u 4), .ref (u 5), .ref (u 6), .ref (u 2), .ref (u 7), .ref (u 3), .int (stwF3_2.1 0), .int (stwF3_2.1 1)])), ((u 2), .inl (cy 1, 1024, .inl (stwF3_2.2.1 0))), ((u 3), .inl (cy 2, 24, .inr (.inl (stwF3_2.2.2.2 0)))), ((u 4), .inl (cy 1, 3000, .inl (stwF3_2.2.1 1))), ((u 5), .inl (cy 1, 3000, .inl (stwF3_2.2.1 2))), ((u 6), .inl (cy 1, 3000, .inl (stwF3_2.2.1 3))), ((u 7), .inl (cy 1, 3000, .inl (stwF3_2.2.1 4))), ((u 8), .inl (cy 1, 60, .inl (fun _ => 0)))]) [.ref h0, .ref r1, .ref r2] := by
  refine CI.of (by decide +kernel) (Nat.le_of_ble_eq_true rfl) ?_
  intro p e s m args below meth c A F hr hk hin K E I hA hP hD hS ls hl
  have hl : lv_has ls 3 [(0, .ref h0), (1, .ref r1), (2, .ref r2)] := hl
  have hx := F.1
  have hb := F.2.1
  have hin : meth.name = "<init>" := hin
  refine lv_aload_n hx hb dX0_init_0 rfl (lv_at hl 0 rfl) ?_
  refine W.objInit hx hb F.2.2.2.1 (F.2.2.2.2 _ (List.mem_cons_of_mem _ oi_X0)) (F.2.2.2.2 _ (List.mem_cons_of_mem _ oi_w1)) (F.2.2.2.2 _ (List.mem_cons_of_mem _ oi_w2)) rfl (by rw [F.2.2.1]; exact hl.1) rfl dX0_init_1 (Nat.le_of_ble_eq_true rfl) (Nat.le_of_ble_eq_true rfl) ?_
  refine W.eq (g2 := F0 m 4 ls []) rfl ?_
  refine lv_aload_n hx hb dX0_init_4 rfl (lv_at hl 0 rfl) ?_
  refine va_new (ci := 1) (fs := [.int 0, .null, .null, .null, .null, .null, .null, .int 0, .int 0]) (C := RX1) (T := TX1) (N := 9) F.1 F.2.1 F.2.2.2.2 (fun w h => List.mem_cons_of_mem _ (inG_X1 w h)) tyX1 tyX1_ok F.2.2.2.1 (F.2.2.2.2 _ (List.mem_cons_of_mem _ wx7)) (F.2.2.2.2 _ (List.mem_cons_of_mem _ wx8)) (F.2.2.2.2 _ (List.mem_cons_of_mem _ wd17)) K hP hD hS hA rfl (by decide +kernel) (Nat.le_of_ble_eq_true rfl) (Nat.le_of_ble_eq_true rfl) dX0_init_5 (fun q1 H hP hD hS => ?_)
  have hP : va_P D vwCl [(h0, .inr (0, [.null, .null, .null, .null])), (q1, .inr (1, [.int 0, .null, .null, .null, .null, .null, .null, .int 0, .int 0]))] H := hP
  have hD : va_D A [(h0, .inr (0, [.null, .null, .null, .null])), (q1, .inr (1, [.int 0, .null, .null, .null, .null, .null, .null, .int 0, .int 0]))] := hD
  refine lv_dup hx hb dX0_init_8 rfl ?_
  refine lv_sipush (v := 3000) hx hb dX0_init_9 (by decide) ?_
  refine call_I (n := 1) (wl := [(h0, .inr (0, [.null, .null, .null, .null]))]) F K E I hA hP hD hS (i_F3 (l := l) (D := D) (cy := cy) (ee := ee)) ⟨wd1377, wd17, wd1378, wd1379⟩  rfl (by decide +kernel) ⟨Nat.le_of_ble_eq_true rfl, Nat.le_of_ble_eq_true rfl⟩ rfl hl.1 (Nat.le_of_ble_eq_true rfl) dX0_init_12 ⟨Nat.le_of_ble_eq_true rfl, Nat.le_of_ble_eq_true rfl⟩ (fun u2 H locs huu2 gP gD gS => ?_)
  obtain rfl : q1 = u2 0 := huu2.symm
  have hP : va_P D vwCl [(h0, .inr (0, [.null, .null, .null, .null])), ((u2 0), .inr (1, [.int 3000, .ref (u2 3), .ref (u2 4), .ref (u2 5), .ref (u2 1), .ref (u2 6), .ref (u2 2), .int (stwF3_2.1 0), .int (stwF3_2.1 1)])), ((u2 1), .inl (cy 1, 1024, .inl (stwF3_2.2.1 0))), ((u2 2), .inl (cy 2, 24, .inr (.inl (stwF3_2.2.2.2 0)))), ((u2 3), .inl (cy 1, 3000, .inl (stwF3_2.2.1 1))), ((u2 4), .inl (cy 1, 3000, .inl (stwF3_2.2.1 2))), ((u2 5), .inl (cy 1, 3000, .inl (stwF3_2.2.1 3))), ((u2 6), .inl (cy 1, 3000, .inl (stwF3_2.2.1 4)))] H := gP
  have hD : va_D A [(h0, .inr (0, [.null, .null, .null, .null])), ((u2 0), .inr (1, [.int 3000, .ref (u2 3), .ref (u2 4), .ref (u2 5), .ref (u2 1), .ref (u2 6), .ref (u2 2), .int (stwF3_2.1 0), .int (stwF3_2.1 1)])), ((u2 1), .inl (cy 1, 1024, .inl (stwF3_2.2.1 0))), ((u2 2), .inl (cy 2, 24, .inr (.inl (stwF3_2.2.2.2 0)))), ((u2 3), .inl (cy 1, 3000, .inl (stwF3_2.2.1 1))), ((u2 4), .inl (cy 1, 3000, .inl (stwF3_2.2.1 2))), ((u2 5), .inl (cy 1, 3000, .inl (stwF3_2.2.1 3))), ((u2 6), .inl (cy 1, 3000, .inl (stwF3_2.2.1 4)))] := gD
  have hS := gS
  refine va_putF (D := D) (ci := 0) (v := .ref (u2 0)) (ty := .object "WorldProver$Formulas") (C := RX0) (T := TX0) (N := 4) F.1 F.2.1 F.2.2.2.2 (fun w h => List.mem_cons_of_mem _ (inG_X0 w h)) tyX0 tyX0_ok nmX0 F.2.2.2.1 K hP hD hS 0 rfl rfl 2 (by decide) (F.2.2.2.2 _ (List.mem_cons_of_mem _ wd734)) (fun _ h => h) rfl hin rfl (by decide +kernel) rfl rfl (Nat.le_of_ble_eq_true rfl) dX0_init_15 (fun H locs hP hD hS => ?_)
  have hP : va_P D vwCl [(h0, .inr (0, [.null, .null, .ref (u2 0), .null])), ((u2 0), .inr (1, [.int 3000, .ref (u2 3), .ref (u2 4), .ref (u2 5), .ref (u2 1), .ref (u2 6), .ref (u2 2), .int (stwF3_2.1 0), .int (stwF3_2.1 1)])), ((u2 1), .inl (cy 1, 1024, .inl (stwF3_2.2.1 0))), ((u2 2), .inl (cy 2, 24, .inr (.inl (stwF3_2.2.2.2 0)))), ((u2 3), .inl (cy 1, 3000, .inl (stwF3_2.2.1 1))), ((u2 4), .inl (cy 1, 3000, .inl (stwF3_2.2.1 2))), ((u2 5), .inl (cy 1, 3000, .inl (stwF3_2.2.1 3))), ((u2 6), .inl (cy 1, 3000, .inl (stwF3_2.2.1 4)))] H := hP
  have hD : va_D A [(h0, .inr (0, [.null, .null, .ref (u2 0), .null])), ((u2 0), .inr (1, [.int 3000, .ref (u2 3), .ref (u2 4), .ref (u2 5), .ref (u2 1), .ref (u2 6), .ref (u2 2), .int (stwF3_2.1 0), .int (stwF3_2.1 1)])), ((u2 1), .inl (cy 1, 1024, .inl (stwF3_2.2.1 0))), ((u2 2), .inl (cy 2, 24, .inr (.inl (stwF3_2.2.2.2 0)))), ((u2 3), .inl (cy 1, 3000, .inl (stwF3_2.2.1 1))), ((u2 4), .inl (cy 1, 3000, .inl (stwF3_2.2.1 2))), ((u2 5), .inl (cy 1, 3000, .inl (stwF3_2.2.1 3))), ((u2 6), .inl (cy 1, 3000, .inl (stwF3_2.2.1 4)))] := hD
  refine lv_aload_n hx hb dX0_init_18 rfl (lv_at hl 0 rfl) ?_
  refine lv_bipush (v := 60) hx hb dX0_init_19 (by decide) ?_
  refine nw_i F K hP hD hS hA (by decide) (N := 60) (by decide +kernel) (Nat.le_of_ble_eq_true rfl) (Nat.le_of_ble_eq_true rfl) (Nat.le_of_ble_eq_true rfl) dX0_init_21 (fun q3 H hP hD hS => ?_)
  have hP : va_P D vwCl [(h0, .inr (0, [.null, .null, .ref (u2 0), .null])), ((u2 0), .inr (1, [.int 3000, .ref (u2 3), .ref (u2 4), .ref (u2 5), .ref (u2 1), .ref (u2 6), .ref (u2 2), .int (stwF3_2.1 0), .int (stwF3_2.1 1)])), ((u2 1), .inl (cy 1, 1024, .inl (stwF3_2.2.1 0))), ((u2 2), .inl (cy 2, 24, .inr (.inl (stwF3_2.2.2.2 0)))), ((u2 3), .inl (cy 1, 3000, .inl (stwF3_2.2.1 1))), ((u2 4), .inl (cy 1, 3000, .inl (stwF3_2.2.1 2))), ((u2 5), .inl (cy 1, 3000, .inl (stwF3_2.2.1 3))), ((u2 6), .inl (cy 1, 3000, .inl (stwF3_2.2.1 4))), (q3, .inl (cy 1, 60, .inl (fun _ => 0)))] H := hP
  have hD : va_D A [(h0, .inr (0, [.null, .null, .ref (u2 0), .null])), ((u2 0), .inr (1, [.int 3000, .ref (u2 3), .ref (u2 4), .ref (u2 5), .ref (u2 1), .ref (u2 6), .ref (u2 2), .int (stwF3_2.1 0), .int (stwF3_2.1 1)])), ((u2 1), .inl (cy 1, 1024, .inl (stwF3_2.2.1 0))), ((u2 2), .inl (cy 2, 24, .inr (.inl (stwF3_2.2.2.2 0)))), ((u2 3), .inl (cy 1, 3000, .inl (stwF3_2.2.1 1))), ((u2 4), .inl (cy 1, 3000, .inl (stwF3_2.2.1 2))), ((u2 5), .inl (cy 1, 3000, .inl (stwF3_2.2.1 3))), ((u2 6), .inl (cy 1, 3000, .inl (stwF3_2.2.1 4))), (q3, .inl (cy 1, 60, .inl (fun _ => 0)))] := hD
  refine va_putF (D := D) (ci := 0) (v := .ref q3) (ty := .array .int) (C := RX0) (T := TX0) (N := 4) F.1 F.2.1 F.2.2.2.2 (fun w h => List.mem_cons_of_mem _ (inG_X0 w h)) tyX0 tyX0_ok nmX0 F.2.2.2.1 K hP hD hS 0 rfl rfl 3 (by decide) (F.2.2.2.2 _ (List.mem_cons_of_mem _ wd738)) (fun _ h => h) rfl hin rfl (by decide +kernel) rfl rfl (Nat.le_of_ble_eq_true rfl) dX0_init_23 (fun H locs hP hD hS => ?_)
  have hP : va_P D vwCl [(h0, .inr (0, [.null, .null, .ref (u2 0), .ref q3])), ((u2 0), .inr (1, [.int 3000, .ref (u2 3), .ref (u2 4), .ref (u2 5), .ref (u2 1), .ref (u2 6), .ref (u2 2), .int (stwF3_2.1 0), .int (stwF3_2.1 1)])), ((u2 1), .inl (cy 1, 1024, .inl (stwF3_2.2.1 0))), ((u2 2), .inl (cy 2, 24, .inr (.inl (stwF3_2.2.2.2 0)))), ((u2 3), .inl (cy 1, 3000, .inl (stwF3_2.2.1 1))), ((u2 4), .inl (cy 1, 3000, .inl (stwF3_2.2.1 2))), ((u2 5), .inl (cy 1, 3000, .inl (stwF3_2.2.1 3))), ((u2 6), .inl (cy 1, 3000, .inl (stwF3_2.2.1 4))), (q3, .inl (cy 1, 60, .inl (fun _ => 0)))] H := hP
  have hD : va_D A [(h0, .inr (0, [.null, .null, .ref (u2 0), .ref q3])), ((u2 0), .inr (1, [.int 3000, .ref (u2 3), .ref (u2 4), .ref (u2 5), .ref (u2 1), .ref (u2 6), .ref (u2 2), .int (stwF3_2.1 0), .int (stwF3_2.1 1)])), ((u2 1), .inl (cy 1, 1024, .inl (stwF3_2.2.1 0))), ((u2 2), .inl (cy 2, 24, .inr (.inl (stwF3_2.2.2.2 0)))), ((u2 3), .inl (cy 1, 3000, .inl (stwF3_2.2.1 1))), ((u2 4), .inl (cy 1, 3000, .inl (stwF3_2.2.1 2))), ((u2 5), .inl (cy 1, 3000, .inl (stwF3_2.2.1 3))), ((u2 6), .inl (cy 1, 3000, .inl (stwF3_2.2.1 4))), (q3, .inl (cy 1, 60, .inl (fun _ => 0)))] := hD
  refine lv_aload_n hx hb dX0_init_26 rfl (lv_at hl 0 rfl) ?_
  refine lv_aload_n hx hb dX0_init_27 rfl (lv_at hl 1 rfl) ?_
  refine va_putF (D := D) (ci := 0) (v := .ref r1) (ty := .object "WorldProver$Formulas") (C := RX0) (T := TX0) (N := 4) F.1 F.2.1 F.2.2.2.2 (fun w h => List.mem_cons_of_mem _ (inG_X0 w h)) tyX0 tyX0_ok nmX0 F.2.2.2.1 K hP hD hS 0 rfl rfl 0 (by decide) (F.2.2.2.2 _ (List.mem_cons_of_mem _ wd735)) (fun _ h => h) rfl hin rfl (by decide +kernel) rfl rfl (Nat.le_of_ble_eq_true rfl) dX0_init_28 (fun H locs hP hD hS => ?_)
  have hP : va_P D vwCl [(h0, .inr (0, [.ref r1, .null, .ref (u2 0), .ref q3])), ((u2 0), .inr (1, [.int 3000, .ref (u2 3), .ref (u2 4), .ref (u2 5), .ref (u2 1), .ref (u2 6), .ref (u2 2), .int (stwF3_2.1 0), .int (stwF3_2.1 1)])), ((u2 1), .inl (cy 1, 1024, .inl (stwF3_2.2.1 0))), ((u2 2), .inl (cy 2, 24, .inr (.inl (stwF3_2.2.2.2 0)))), ((u2 3), .inl (cy 1, 3000, .inl (stwF3_2.2.1 1))), ((u2 4), .inl (cy 1, 3000, .inl (stwF3_2.2.1 2))), ((u2 5), .inl (cy 1, 3000, .inl (stwF3_2.2.1 3))), ((u2 6), .inl (cy 1, 3000, .inl (stwF3_2.2.1 4))), (q3, .inl (cy 1, 60, .inl (fun _ => 0)))] H := hP
  have hD : va_D A [(h0, .inr (0, [.ref r1, .null, .ref (u2 0), .ref q3])), ((u2 0), .inr (1, [.int 3000, .ref (u2 3), .ref (u2 4), .ref (u2 5), .ref (u2 1), .ref (u2 6), .ref (u2 2), .int (stwF3_2.1 0), .int (stwF3_2.1 1)])), ((u2 1), .inl (cy 1, 1024, .inl (stwF3_2.2.1 0))), ((u2 2), .inl (cy 2, 24, .inr (.inl (stwF3_2.2.2.2 0)))), ((u2 3), .inl (cy 1, 3000, .inl (stwF3_2.2.1 1))), ((u2 4), .inl (cy 1, 3000, .inl (stwF3_2.2.1 2))), ((u2 5), .inl (cy 1, 3000, .inl (stwF3_2.2.1 3))), ((u2 6), .inl (cy 1, 3000, .inl (stwF3_2.2.1 4))), (q3, .inl (cy 1, 60, .inl (fun _ => 0)))] := hD
  refine lv_aload_n hx hb dX0_init_31 rfl (lv_at hl 0 rfl) ?_
  refine lv_aload_n hx hb dX0_init_32 rfl (lv_at hl 2 rfl) ?_
  refine va_putF (D := D) (ci := 0) (v := .ref r2) (ty := .object "WorldProver$Terms") (C := RX0) (T := TX0) (N := 4) F.1 F.2.1 F.2.2.2.2 (fun w h => List.mem_cons_of_mem _ (inG_X0 w h)) tyX0 tyX0_ok nmX0 F.2.2.2.1 K hP hD hS 0 rfl rfl 1 (by decide) (F.2.2.2.2 _ (List.mem_cons_of_mem _ wd733)) (fun _ h => h) rfl hin rfl (by decide +kernel) rfl rfl (Nat.le_of_ble_eq_true rfl) dX0_init_33 (fun H locs hP hD hS => ?_)
  have hP : va_P D vwCl [(h0, .inr (0, [.ref r1, .ref r2, .ref (u2 0), .ref q3])), ((u2 0), .inr (1, [.int 3000, .ref (u2 3), .ref (u2 4), .ref (u2 5), .ref (u2 1), .ref (u2 6), .ref (u2 2), .int (stwF3_2.1 0), .int (stwF3_2.1 1)])), ((u2 1), .inl (cy 1, 1024, .inl (stwF3_2.2.1 0))), ((u2 2), .inl (cy 2, 24, .inr (.inl (stwF3_2.2.2.2 0)))), ((u2 3), .inl (cy 1, 3000, .inl (stwF3_2.2.1 1))), ((u2 4), .inl (cy 1, 3000, .inl (stwF3_2.2.1 2))), ((u2 5), .inl (cy 1, 3000, .inl (stwF3_2.2.1 3))), ((u2 6), .inl (cy 1, 3000, .inl (stwF3_2.2.1 4))), (q3, .inl (cy 1, 60, .inl (fun _ => 0)))] H := hP
  have hD : va_D A [(h0, .inr (0, [.ref r1, .ref r2, .ref (u2 0), .ref q3])), ((u2 0), .inr (1, [.int 3000, .ref (u2 3), .ref (u2 4), .ref (u2 5), .ref (u2 1), .ref (u2 6), .ref (u2 2), .int (stwF3_2.1 0), .int (stwF3_2.1 1)])), ((u2 1), .inl (cy 1, 1024, .inl (stwF3_2.2.1 0))), ((u2 2), .inl (cy 2, 24, .inr (.inl (stwF3_2.2.2.2 0)))), ((u2 3), .inl (cy 1, 3000, .inl (stwF3_2.2.1 1))), ((u2 4), .inl (cy 1, 3000, .inl (stwF3_2.2.1 2))), ((u2 5), .inl (cy 1, 3000, .inl (stwF3_2.2.1 3))), ((u2 6), .inl (cy 1, 3000, .inl (stwF3_2.2.1 4))), (q3, .inl (cy 1, 60, .inl (fun _ => 0)))] := hD
  refine W.widen (k := 8) (n := 13117) (Nat.le_of_ble_eq_true rfl) (Nat.le_of_ble_eq_true rfl) ?_
  exact ret_I (fun k => ([h0, (u2 0), (u2 1), (u2 2), (u2 3), (u2 4), (u2 5), (u2 6), q3] : List Nat).getD k 0) F hr hk rfl hP hD hS dX0_init_36



set_option maxRecDepth 100000 in
set_option maxHeartbeats 8000000 in
theorem i_P {l : Launch} {D : va_G} {cy : Nat → ClassId} {ee : EE} {h0 r1 : Nat} : CI l yX2_init cX2_init 2 1 24 2 4000 D cy ee [(h0, .inr (2, [.null, .null, .null]))] h0 (fun u => [((u 0), .inr (2, [.ref r1, .ref (u 1), .ref (u 2)])), ((u 1), .inl (cy 0, 2000, .inl (fun _ => 0))), ((u 2), .inl (cy 2, 2000, .inr (.inl (fun _ => 0))))]) [.ref h0, .ref r1] := by
  refine CI.of (by decide +kernel) (Nat.le_of_ble_eq_true rfl) ?_
  intro p e s m args below meth c A F hr hk hin K E I hA hP hD hS ls hl
  have hl : lv_has ls 2 [(0, .ref h0), (1, .ref r1)] := hl
  have hx := F.1
  have hb := F.2.1
  have hin : meth.name = "<init>" := hin
  refine lv_aload_n hx hb dX2_init_0 rfl (lv_at hl 0 rfl) ?_
  refine W.objInit hx hb F.2.2.2.1 (F.2.2.2.2 _ (List.mem_cons_of_mem _ oi_X2)) (F.2.2.2.2 _ (List.mem_cons_of_mem _ oi_w1)) (F.2.2.2.2 _ (List.mem_cons_of_mem _ oi_w2)) rfl (by rw [F.2.2.1]; exact hl.1) rfl dX2_init_1 (Nat.le_of_ble_eq_true rfl) (Nat.le_of_ble_eq_true rfl) ?_
  refine W.eq (g2 := F0 m 4 ls []) rfl ?_
  refine lv_aload_n hx hb dX2_init_4 rfl (lv_at hl 0 rfl) ?_
  refine lv_sipush (v := 2000) hx hb dX2_init_5 (by decide) ?_
  refine nw_b F K hP hD hS hA (by decide) (N := 2000) (by decide +kernel) (Nat.le_of_ble_eq_true rfl) (Nat.le_of_ble_eq_true rfl) (Nat.le_of_ble_eq_true rfl) dX2_init_8 (fun q1 H hP hD hS => ?_)
  have hP : va_P D vwCl [(h0, .inr (2, [.null, .null, .null])), (q1, .inl (cy 0, 2000, .inl (fun _ => 0)))] H := hP
  have hD : va_D A [(h0, .inr (2, [.null, .null, .null])), (q1, .inl (cy 0, 2000, .inl (fun _ => 0)))] := hD
  refine va_putF (D := D) (ci := 2) (v := .ref q1) (ty := .array .byte) (C := RX2) (T := TX2) (N := 3) F.1 F.2.1 F.2.2.2.2 (fun w h => List.mem_cons_of_mem _ (inG_X2 w h)) tyX2 tyX2_ok nmX2 F.2.2.2.1 K hP hD hS 0 rfl rfl 1 (by decide) (F.2.2.2.2 _ (List.mem_cons_of_mem _ wd362)) (fun _ h => h) rfl hin rfl (by decide +kernel) rfl rfl (Nat.le_of_ble_eq_true rfl) dX2_init_10 (fun H locs hP hD hS => ?_)
  have hP : va_P D vwCl [(h0, .inr (2, [.null, .ref q1, .null])), (q1, .inl (cy 0, 2000, .inl (fun _ => 0)))] H := hP
  have hD : va_D A [(h0, .inr (2, [.null, .ref q1, .null])), (q1, .inl (cy 0, 2000, .inl (fun _ => 0)))] := hD
  refine lv_aload_n hx hb dX2_init_13 rfl (lv_at hl 0 rfl) ?_
  refine lv_sipush (v := 2000) hx hb dX2_init_14 (by decide) ?_
  refine nw_l F K hP hD hS hA (by decide) (N := 2000) (by decide +kernel) (Nat.le_of_ble_eq_true rfl) (Nat.le_of_ble_eq_true rfl) (Nat.le_of_ble_eq_true rfl) dX2_init_17 (fun q2 H hP hD hS => ?_)
  have hP : va_P D vwCl [(h0, .inr (2, [.null, .ref q1, .null])), (q1, .inl (cy 0, 2000, .inl (fun _ => 0))), (q2, .inl (cy 2, 2000, .inr (.inl (fun _ => 0))))] H := hP
  have hD : va_D A [(h0, .inr (2, [.null, .ref q1, .null])), (q1, .inl (cy 0, 2000, .inl (fun _ => 0))), (q2, .inl (cy 2, 2000, .inr (.inl (fun _ => 0))))] := hD
  refine va_putF (D := D) (ci := 2) (v := .ref q2) (ty := .array .long) (C := RX2) (T := TX2) (N := 3) F.1 F.2.1 F.2.2.2.2 (fun w h => List.mem_cons_of_mem _ (inG_X2 w h)) tyX2 tyX2_ok nmX2 F.2.2.2.1 K hP hD hS 0 rfl rfl 2 (by decide) (F.2.2.2.2 _ (List.mem_cons_of_mem _ wd367)) (fun _ h => h) rfl hin rfl (by decide +kernel) rfl rfl (Nat.le_of_ble_eq_true rfl) dX2_init_19 (fun H locs hP hD hS => ?_)
  have hP : va_P D vwCl [(h0, .inr (2, [.null, .ref q1, .ref q2])), (q1, .inl (cy 0, 2000, .inl (fun _ => 0))), (q2, .inl (cy 2, 2000, .inr (.inl (fun _ => 0))))] H := hP
  have hD : va_D A [(h0, .inr (2, [.null, .ref q1, .ref q2])), (q1, .inl (cy 0, 2000, .inl (fun _ => 0))), (q2, .inl (cy 2, 2000, .inr (.inl (fun _ => 0))))] := hD
  refine lv_aload_n hx hb dX2_init_22 rfl (lv_at hl 0 rfl) ?_
  refine lv_aload_n hx hb dX2_init_23 rfl (lv_at hl 1 rfl) ?_
  refine va_putF (D := D) (ci := 2) (v := .ref r1) (ty := .object "WorldProver$Formulas") (C := RX2) (T := TX2) (N := 3) F.1 F.2.1 F.2.2.2.2 (fun w h => List.mem_cons_of_mem _ (inG_X2 w h)) tyX2 tyX2_ok nmX2 F.2.2.2.1 K hP hD hS 0 rfl rfl 0 (by decide) (F.2.2.2.2 _ (List.mem_cons_of_mem _ wd368)) (fun _ h => h) rfl hin rfl (by decide +kernel) rfl rfl (Nat.le_of_ble_eq_true rfl) dX2_init_24 (fun H locs hP hD hS => ?_)
  have hP : va_P D vwCl [(h0, .inr (2, [.ref r1, .ref q1, .ref q2])), (q1, .inl (cy 0, 2000, .inl (fun _ => 0))), (q2, .inl (cy 2, 2000, .inr (.inl (fun _ => 0))))] H := hP
  have hD : va_D A [(h0, .inr (2, [.ref r1, .ref q1, .ref q2])), (q1, .inl (cy 0, 2000, .inl (fun _ => 0))), (q2, .inl (cy 2, 2000, .inr (.inl (fun _ => 0))))] := hD
  refine W.widen (k := 2) (n := 4000) (Nat.le_of_ble_eq_true rfl) (Nat.le_of_ble_eq_true rfl) ?_
  exact ret_I (fun k => ([h0, q1, q2] : List Nat).getD k 0) F hr hk rfl hP hD hS dX2_init_27



set_option maxRecDepth 100000 in
set_option maxHeartbeats 8000000 in
theorem i_D {l : Launch} {D : va_G} {cy : Nat → ClassId} {ee : EE} {h0 r1 : Nat} : CI l yX9_init cX9_init 2 1 24 4 240 D cy ee [(h0, .inr (9, [.null, .null, .null, .null, .null, .int 0]))] h0 (fun u => [((u 0), .inr (9, [.ref r1, .ref (u 1), .ref (u 2), .ref (u 3), .ref (u 4), .int 1])), ((u 1), .inl (cy 1, 60, .inl (upd (fun _ => 0) (0 : Int32).toNatClampNeg (-1)))), ((u 2), .inl (cy 1, 60, .inl (fun _ => 0))), ((u 3), .inl (cy 1, 60, .inl (fun _ => 0))), ((u 4), .inl (cy 1, 60, .inl (fun _ => 0)))]) [.ref h0, .ref r1] := by
  refine CI.of (by decide +kernel) (Nat.le_of_ble_eq_true rfl) ?_
  intro p e s m args below meth c A F hr hk hin K E I hA hP hD hS ls hl
  have hl : lv_has ls 2 [(0, .ref h0), (1, .ref r1)] := hl
  have hx := F.1
  have hb := F.2.1
  have hin : meth.name = "<init>" := hin
  refine lv_aload_n hx hb dX9_init_0 rfl (lv_at hl 0 rfl) ?_
  refine W.objInit hx hb F.2.2.2.1 (F.2.2.2.2 _ (List.mem_cons_of_mem _ oi_X9)) (F.2.2.2.2 _ (List.mem_cons_of_mem _ oi_w1)) (F.2.2.2.2 _ (List.mem_cons_of_mem _ oi_w2)) rfl (by rw [F.2.2.1]; exact hl.1) rfl dX9_init_1 (Nat.le_of_ble_eq_true rfl) (Nat.le_of_ble_eq_true rfl) ?_
  refine W.eq (g2 := F0 m 4 ls []) rfl ?_
  refine lv_aload_n hx hb dX9_init_4 rfl (lv_at hl 0 rfl) ?_
  refine lv_bipush (v := 60) hx hb dX9_init_5 (by decide) ?_
  refine nw_i F K hP hD hS hA (by decide) (N := 60) (by decide +kernel) (Nat.le_of_ble_eq_true rfl) (Nat.le_of_ble_eq_true rfl) (Nat.le_of_ble_eq_true rfl) dX9_init_7 (fun q1 H hP hD hS => ?_)
  have hP : va_P D vwCl [(h0, .inr (9, [.null, .null, .null, .null, .null, .int 0])), (q1, .inl (cy 1, 60, .inl (fun _ => 0)))] H := hP
  have hD : va_D A [(h0, .inr (9, [.null, .null, .null, .null, .null, .int 0])), (q1, .inl (cy 1, 60, .inl (fun _ => 0)))] := hD
  refine va_putF (D := D) (ci := 9) (v := .ref q1) (ty := .array .int) (C := RX9) (T := TX9) (N := 6) F.1 F.2.1 F.2.2.2.2 (fun w h => List.mem_cons_of_mem _ (inG_X9 w h)) tyX9 tyX9_ok nmX9 F.2.2.2.1 K hP hD hS 0 rfl rfl 1 (by decide) (F.2.2.2.2 _ (List.mem_cons_of_mem _ wd314)) (fun _ h => h) rfl hin rfl (by decide +kernel) rfl rfl (Nat.le_of_ble_eq_true rfl) dX9_init_9 (fun H locs hP hD hS => ?_)
  have hP : va_P D vwCl [(h0, .inr (9, [.null, .ref q1, .null, .null, .null, .int 0])), (q1, .inl (cy 1, 60, .inl (fun _ => 0)))] H := hP
  have hD : va_D A [(h0, .inr (9, [.null, .ref q1, .null, .null, .null, .int 0])), (q1, .inl (cy 1, 60, .inl (fun _ => 0)))] := hD
  refine lv_aload_n hx hb dX9_init_12 rfl (lv_at hl 0 rfl) ?_
  refine lv_bipush (v := 60) hx hb dX9_init_13 (by decide) ?_
  refine nw_i F K hP hD hS hA (by decide) (N := 60) (by decide +kernel) (Nat.le_of_ble_eq_true rfl) (Nat.le_of_ble_eq_true rfl) (Nat.le_of_ble_eq_true rfl) dX9_init_15 (fun q2 H hP hD hS => ?_)
  have hP : va_P D vwCl [(h0, .inr (9, [.null, .ref q1, .null, .null, .null, .int 0])), (q1, .inl (cy 1, 60, .inl (fun _ => 0))), (q2, .inl (cy 1, 60, .inl (fun _ => 0)))] H := hP
  have hD : va_D A [(h0, .inr (9, [.null, .ref q1, .null, .null, .null, .int 0])), (q1, .inl (cy 1, 60, .inl (fun _ => 0))), (q2, .inl (cy 1, 60, .inl (fun _ => 0)))] := hD
  refine va_putF (D := D) (ci := 9) (v := .ref q2) (ty := .array .int) (C := RX9) (T := TX9) (N := 6) F.1 F.2.1 F.2.2.2.2 (fun w h => List.mem_cons_of_mem _ (inG_X9 w h)) tyX9 tyX9_ok nmX9 F.2.2.2.1 K hP hD hS 0 rfl rfl 2 (by decide) (F.2.2.2.2 _ (List.mem_cons_of_mem _ wd313)) (fun _ h => h) rfl hin rfl (by decide +kernel) rfl rfl (Nat.le_of_ble_eq_true rfl) dX9_init_17 (fun H locs hP hD hS => ?_)
  have hP : va_P D vwCl [(h0, .inr (9, [.null, .ref q1, .ref q2, .null, .null, .int 0])), (q1, .inl (cy 1, 60, .inl (fun _ => 0))), (q2, .inl (cy 1, 60, .inl (fun _ => 0)))] H := hP
  have hD : va_D A [(h0, .inr (9, [.null, .ref q1, .ref q2, .null, .null, .int 0])), (q1, .inl (cy 1, 60, .inl (fun _ => 0))), (q2, .inl (cy 1, 60, .inl (fun _ => 0)))] := hD
  refine lv_aload_n hx hb dX9_init_20 rfl (lv_at hl 0 rfl) ?_
  refine lv_bipush (v := 60) hx hb dX9_init_21 (by decide) ?_
  refine nw_i F K hP hD hS hA (by decide) (N := 60) (by decide +kernel) (Nat.le_of_ble_eq_true rfl) (Nat.le_of_ble_eq_true rfl) (Nat.le_of_ble_eq_true rfl) dX9_init_23 (fun q3 H hP hD hS => ?_)
  have hP : va_P D vwCl [(h0, .inr (9, [.null, .ref q1, .ref q2, .null, .null, .int 0])), (q1, .inl (cy 1, 60, .inl (fun _ => 0))), (q2, .inl (cy 1, 60, .inl (fun _ => 0))), (q3, .inl (cy 1, 60, .inl (fun _ => 0)))] H := hP
  have hD : va_D A [(h0, .inr (9, [.null, .ref q1, .ref q2, .null, .null, .int 0])), (q1, .inl (cy 1, 60, .inl (fun _ => 0))), (q2, .inl (cy 1, 60, .inl (fun _ => 0))), (q3, .inl (cy 1, 60, .inl (fun _ => 0)))] := hD
  refine va_putF (D := D) (ci := 9) (v := .ref q3) (ty := .array .int) (C := RX9) (T := TX9) (N := 6) F.1 F.2.1 F.2.2.2.2 (fun w h => List.mem_cons_of_mem _ (inG_X9 w h)) tyX9 tyX9_ok nmX9 F.2.2.2.1 K hP hD hS 0 rfl rfl 3 (by decide) (F.2.2.2.2 _ (List.mem_cons_of_mem _ wd336)) (fun _ h => h) rfl hin rfl (by decide +kernel) rfl rfl (Nat.le_of_ble_eq_true rfl) dX9_init_25 (fun H locs hP hD hS => ?_)
  have hP : va_P D vwCl [(h0, .inr (9, [.null, .ref q1, .ref q2, .ref q3, .null, .int 0])), (q1, .inl (cy 1, 60, .inl (fun _ => 0))), (q2, .inl (cy 1, 60, .inl (fun _ => 0))), (q3, .inl (cy 1, 60, .inl (fun _ => 0)))] H := hP
  have hD : va_D A [(h0, .inr (9, [.null, .ref q1, .ref q2, .ref q3, .null, .int 0])), (q1, .inl (cy 1, 60, .inl (fun _ => 0))), (q2, .inl (cy 1, 60, .inl (fun _ => 0))), (q3, .inl (cy 1, 60, .inl (fun _ => 0)))] := hD
  refine lv_aload_n hx hb dX9_init_28 rfl (lv_at hl 0 rfl) ?_
  refine lv_bipush (v := 60) hx hb dX9_init_29 (by decide) ?_
  refine nw_i F K hP hD hS hA (by decide) (N := 60) (by decide +kernel) (Nat.le_of_ble_eq_true rfl) (Nat.le_of_ble_eq_true rfl) (Nat.le_of_ble_eq_true rfl) dX9_init_31 (fun q4 H hP hD hS => ?_)
  have hP : va_P D vwCl [(h0, .inr (9, [.null, .ref q1, .ref q2, .ref q3, .null, .int 0])), (q1, .inl (cy 1, 60, .inl (fun _ => 0))), (q2, .inl (cy 1, 60, .inl (fun _ => 0))), (q3, .inl (cy 1, 60, .inl (fun _ => 0))), (q4, .inl (cy 1, 60, .inl (fun _ => 0)))] H := hP
  have hD : va_D A [(h0, .inr (9, [.null, .ref q1, .ref q2, .ref q3, .null, .int 0])), (q1, .inl (cy 1, 60, .inl (fun _ => 0))), (q2, .inl (cy 1, 60, .inl (fun _ => 0))), (q3, .inl (cy 1, 60, .inl (fun _ => 0))), (q4, .inl (cy 1, 60, .inl (fun _ => 0)))] := hD
  refine va_putF (D := D) (ci := 9) (v := .ref q4) (ty := .array .int) (C := RX9) (T := TX9) (N := 6) F.1 F.2.1 F.2.2.2.2 (fun w h => List.mem_cons_of_mem _ (inG_X9 w h)) tyX9 tyX9_ok nmX9 F.2.2.2.1 K hP hD hS 0 rfl rfl 4 (by decide) (F.2.2.2.2 _ (List.mem_cons_of_mem _ wd337)) (fun _ h => h) rfl hin rfl (by decide +kernel) rfl rfl (Nat.le_of_ble_eq_true rfl) dX9_init_33 (fun H locs hP hD hS => ?_)
  have hP : va_P D vwCl [(h0, .inr (9, [.null, .ref q1, .ref q2, .ref q3, .ref q4, .int 0])), (q1, .inl (cy 1, 60, .inl (fun _ => 0))), (q2, .inl (cy 1, 60, .inl (fun _ => 0))), (q3, .inl (cy 1, 60, .inl (fun _ => 0))), (q4, .inl (cy 1, 60, .inl (fun _ => 0)))] H := hP
  have hD : va_D A [(h0, .inr (9, [.null, .ref q1, .ref q2, .ref q3, .ref q4, .int 0])), (q1, .inl (cy 1, 60, .inl (fun _ => 0))), (q2, .inl (cy 1, 60, .inl (fun _ => 0))), (q3, .inl (cy 1, 60, .inl (fun _ => 0))), (q4, .inl (cy 1, 60, .inl (fun _ => 0)))] := hD
  refine lv_aload_n hx hb dX9_init_36 rfl (lv_at hl 0 rfl) ?_
  refine lv_iconst (v := 1) hx hb dX9_init_37 (by decide) ?_
  refine va_put (D := D) (ci := 9) (v := .int 1) (ty := .int) (C := RX9) (T := TX9) (N := 6) F.1 F.2.1 F.2.2.2.2 (fun w h => List.mem_cons_of_mem _ (inG_X9 w h)) tyX9 tyX9_ok nmX9 F.2.2.2.1 K hP hD hS 0 rfl rfl 5 (by decide) (F.2.2.2.2 _ (List.mem_cons_of_mem _ wd312)) (fun _ h => h) rfl (by decide +kernel) rfl rfl (Nat.le_of_ble_eq_true rfl) dX9_init_38 (fun H locs hP hD hS => ?_)
  have hP : va_P D vwCl [(h0, .inr (9, [.null, .ref q1, .ref q2, .ref q3, .ref q4, .int 1])), (q1, .inl (cy 1, 60, .inl (fun _ => 0))), (q2, .inl (cy 1, 60, .inl (fun _ => 0))), (q3, .inl (cy 1, 60, .inl (fun _ => 0))), (q4, .inl (cy 1, 60, .inl (fun _ => 0)))] H := hP
  have hD : va_D A [(h0, .inr (9, [.null, .ref q1, .ref q2, .ref q3, .ref q4, .int 1])), (q1, .inl (cy 1, 60, .inl (fun _ => 0))), (q2, .inl (cy 1, 60, .inl (fun _ => 0))), (q3, .inl (cy 1, 60, .inl (fun _ => 0))), (q4, .inl (cy 1, 60, .inl (fun _ => 0)))] := hD
  refine lv_aload_n hx hb dX9_init_41 rfl (lv_at hl 0 rfl) ?_
  refine lv_aload_n hx hb dX9_init_42 rfl (lv_at hl 1 rfl) ?_
  refine va_putF (D := D) (ci := 9) (v := .ref r1) (ty := .object "WorldProver$Formulas") (C := RX9) (T := TX9) (N := 6) F.1 F.2.1 F.2.2.2.2 (fun w h => List.mem_cons_of_mem _ (inG_X9 w h)) tyX9 tyX9_ok nmX9 F.2.2.2.1 K hP hD hS 0 rfl rfl 0 (by decide) (F.2.2.2.2 _ (List.mem_cons_of_mem _ wd324)) (fun _ h => h) rfl hin rfl (by decide +kernel) rfl rfl (Nat.le_of_ble_eq_true rfl) dX9_init_43 (fun H locs hP hD hS => ?_)
  have hP : va_P D vwCl [(h0, .inr (9, [.ref r1, .ref q1, .ref q2, .ref q3, .ref q4, .int 1])), (q1, .inl (cy 1, 60, .inl (fun _ => 0))), (q2, .inl (cy 1, 60, .inl (fun _ => 0))), (q3, .inl (cy 1, 60, .inl (fun _ => 0))), (q4, .inl (cy 1, 60, .inl (fun _ => 0)))] H := hP
  have hD : va_D A [(h0, .inr (9, [.ref r1, .ref q1, .ref q2, .ref q3, .ref q4, .int 1])), (q1, .inl (cy 1, 60, .inl (fun _ => 0))), (q2, .inl (cy 1, 60, .inl (fun _ => 0))), (q3, .inl (cy 1, 60, .inl (fun _ => 0))), (q4, .inl (cy 1, 60, .inl (fun _ => 0)))] := hD
  refine lv_aload_n hx hb dX9_init_46 rfl (lv_at hl 0 rfl) ?_
  refine va_get (D := D) (ci := 9) (v := .ref q1) (C := RX9) (T := TX9) (N := 6) F.1 F.2.1 F.2.2.2.2 (fun w h => List.mem_cons_of_mem _ (inG_X9 w h)) F.2.2.2.1 K hP 0 rfl rfl 1 (by decide) (F.2.2.2.2 _ (List.mem_cons_of_mem _ wd314)) (fun _ h => h) rfl dX9_init_47 ?_
  refine lv_iconst (v := 0) hx hb dX9_init_50 (by decide) ?_
  refine lv_iconst (v := -1) hx hb dX9_init_51 (by decide) ?_
  refine va_iast F.1 F.2.1 K hP hD hS 1 1 rfl rfl (inB_vp (n := 60) (by decide +kernel)) dX9_init_52 (fun H locs hP hD hS => ?_)
  have hP : va_P D vwCl [(h0, .inr (9, [.ref r1, .ref q1, .ref q2, .ref q3, .ref q4, .int 1])), (q1, .inl (cy 1, 60, .inl (upd (fun _ => 0) (0 : Int32).toNatClampNeg (-1)))), (q2, .inl (cy 1, 60, .inl (fun _ => 0))), (q3, .inl (cy 1, 60, .inl (fun _ => 0))), (q4, .inl (cy 1, 60, .inl (fun _ => 0)))] H := hP
  have hD : va_D A [(h0, .inr (9, [.ref r1, .ref q1, .ref q2, .ref q3, .ref q4, .int 1])), (q1, .inl (cy 1, 60, .inl (upd (fun _ => 0) (0 : Int32).toNatClampNeg (-1)))), (q2, .inl (cy 1, 60, .inl (fun _ => 0))), (q3, .inl (cy 1, 60, .inl (fun _ => 0))), (q4, .inl (cy 1, 60, .inl (fun _ => 0)))] := hD
  refine W.widen (k := 4) (n := 240) (Nat.le_of_ble_eq_true rfl) (Nat.le_of_ble_eq_true rfl) ?_
  exact ret_I (fun k => ([h0, q1, q2, q3, q4] : List Nat).getD k 0) F hr hk rfl hP hD hS dX9_init_53
