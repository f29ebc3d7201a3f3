/-! ===== a call under more operands ===== -/
section BASE3
variable {p : Program} {l : Launch} {e : Env} {R : Room} {s : State} {m : MethodId} {args : Array Value} {below : List Frame} {meth : Method} {c : Code} {H : Heap} {locs : List Loc} {Q : State → Prop}
variable {cc : ByteArray} {nL pc : Nat} {ls : Array Slot} {rest : List Value} {D : va_G} {A : Nat → Prop} {w w' : va_W} {Ts : List Cond} {own : String}
variable {cy : Nat → ClassId} {ee : EE} {y : MethodName} {bytes : ByteArray} {maxL : Nat} {ret : Option FieldType} {fr lo : Nat} {As : List Value} {rv : Option Value} {cw : Cond} {index n : Nat} {b : Nat}
theorem call_W (w0 q0 ci : Nat) {q : vw_C} {fs : List Value} (F : CallFix p m c cc nL s args (cw :: Gw) own) (K : va_K D vwCl (tyL cy) s) (E : EV ee A s s.heap) (hA : ∀ q, s.heap.size ≤ q → A q) (Z : ZG D w A s H locs) (hC : CT l y bytes maxL ret fr lo D cy ee w w' (.ref b :: As) rv)
    (hw : Cond.code y bytes maxL ret ∈ Gw ∧ Cond.methodLink own index y ∈ Gw ∧ Cond.instanceMethod y ∈ Gw ∧ Cond.selects q.1 y y ∈ Gw ∧ Cond.initialized q.1 ∈ Gw) (hd : y.cls = q.1 ∧ y.cls ≠ "java/lang/invoke/MethodHandle" ∧ y.cls ≠ "java/lang/invoke/VarHandle" ∧ (parseMethodDescriptor y.desc).map (fun d => d.parameters.length) = some n)
    (hc : vwCl[ci]? = some q) (he : w[q0]? = some (b, .inr (ci, fs))) (hR : fr + 1 ≤ R.frames ∧ w0 + (maxL + 11) + lo ≤ R.locals) (hn : As.length = n) (hl : ls.size = nL) (hst : (rest.map fun v => v.category).sum ≤ w0) (hw0 : 8 ≤ w0) (hdg : decode cc pc = .ok (.invokevirtual index, 3))
    (kk : ∀ (H1 : Heap) (locs1 : List Loc), ZG D w' A s H1 locs1 → W p l e R s m args below meth c H1 locs1 0 0 Q (F0 m (pc + 3) ls (rv.toList ++ rest))) : W p l e R s m args below meth c H locs 0 0 Q (F0 m pc ls (As.reverse ++ .ref b :: rest)) := by
  have hG : GoodIn (cw :: Gw) (wsV own index q.1 y (Cond.code y bytes maxL ret :: Gw)) := good_of hw.1 (fun w h => by
    simp only [List.mem_cons, List.not_mem_nil, or_false] at h
    rcases h with h | h | h | h
    · rw [h]; exact hw.2.1
    · rw [h]; exact hw.2.2.1
    · rw [h]; exact hw.2.2.2.1
    · rw [h]; exact hw.2.2.2.2)
  have hp := pre_of (As := .ref b :: As) K E Z hA
  have hr : va_Run p l e R s m args below meth c H locs 0 0 0 0 (F0 m pc ls (As.reverse ++ .ref b :: rest)) rest (QC D rv w' (va_A w H.size) (Value.ref b :: As).toArray) (va_A w H.size) := by
    obtain ⟨⟨-, -, -, -, hws, hcw, hcode, hini, hy, hlen, hl2⟩, hin, hse⟩ := cwV n F.2.2.2.2 hG rfl rfl rfl hd (rm := { frames := fr, cells := 0, slots := 0, locals := lo }) (R := R) ⟨hR.1, by have := hR.2; show 8 + (maxL + 11) + lo ≤ R.locals; omega⟩
    have hK : Back l R p e below s args y 3 w0 _ _ := back_of (bytes := bytes) (maxL := maxL) (ret := ret) (hC H.size) hp.1 rfl rfl hR.1 hR.2 hws hcw (fun a' U hW => word_at hW (Or.inl (by first | rfl | simp [Cond.onTables, Cond.keeps, Cond.steady])) hini)
    obtain ⟨cellB, hcB, hoB, hclB⟩ := va_recv K Z.1 hc he
    have hst0 : 2 * (F0 m pc ls (As.reverse ++ .ref b :: rest)).monitorRoom + (rest.map fun v => v.category).sum ≤ w0 := by
      show 2 * 0 + _ ≤ w0
      omega
    intro T hT X
    obtain ⟨v, vm₁, ⟨U', l2, c2, s2⟩, hW₁, X', ⟨g', mk, t, L, e1, e2, hq, h1, hL, h2, h3⟩, st⟩ := callV (g := F0 m pc ls (As.reverse ++ .ref b :: rest)) (b := b) X F.1 (C := q.1) (bytes := bytes) (maxL := maxL) (ret := ret) F.2.2.2.1 hl2 hin hse hcode hy hK (by rw [hT]; exact hcB) hoB hclB rfl (hl.trans F.2.2.1.symm) (argsL := As) (rest := rest) (fun sig h => hn.trans (hlen sig h)) rfl hst0 (by rw [F.2.1]; exact hdg)
      (fun vm₁ hW₁ => ⟨Nat.zero_le _, Nat.zero_le _, hp.2 (T.setVm vm₁) hT hW₁⟩)
    dsimp only [Pt.U, Pt.locs, Pt.cells, Pt.slots] at X' e1 e2 h1 h2 h3 st
    subst h1; subst h2; subst h3
    exact ⟨v, (T.setVm vm₁).calling g' mk (Value.ref b :: As).toArray, t, U', L, hT, X', hL, e1, e2, hq, st⟩
  exact call_go hr Z.2.2 (sub_A Z hA) kk
end BASE3
