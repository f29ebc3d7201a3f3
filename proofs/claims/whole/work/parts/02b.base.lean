/-! ===== more rows: switches, String constants, chars and bytes, contracts as hypotheses ===== -/
def isC (v : Int32) : Bool := decide (narrow .char (.int v) = .int v)
def isB (v : Int32) : Bool := decide (narrow .byte (.int v) = .int v)
theorem isC_nar {v : Int32} (h : isC v = true) : narrow .char (.int v) = .int v := of_decide_eq_true (p := narrow .char (.int v) = .int v) h
theorem isB_nar {v : Int32} (h : isB v = true) : narrow .byte (.int v) = .int v := of_decide_eq_true (p := narrow .byte (.int v) = .int v) h
theorem sw_any {x : Int32} {lo hi dflt : Int} {offs : Array Int} (h : ∀ j : Int, lo ≤ j → j ≤ hi → x.toInt = j → offs[(j - lo).toNat]? = some dflt) : (x.toInt < lo ∨ hi < x.toInt) ∨ (¬ x.toInt < lo ∧ ¬ hi < x.toInt ∧ offs[(x.toInt - lo).toNat]? = some dflt) := by
  by_cases a : x.toInt < lo
  · exact Or.inl (Or.inl a)
  · by_cases b : hi < x.toInt
    · exact Or.inl (Or.inr b)
    · exact Or.inr ⟨a, b, h _ (by omega) (by omega) rfl⟩
section BASE2
variable {p : Program} {l : Launch} {e : Env} {R : Room} {s : State} {m : MethodId} {args : Array Value} {below : List Frame} {meth : Method} {c : Code} {H : Heap} {locs : List Loc} {Q : State → Prop}
variable {cc : ByteArray} {nL pc : Nat} {ls : Array Slot} {rest : List Value} {D : va_G} {A : Nat → Prop} {w w' : va_W} {Ts : List Cond} {own : String}
theorem sw_tab {dflt lo hi : Int} {offs : Array Int} {len : Nat} {x : Int32} {tgt : Nat} (hx : p.tables.exec = Jvm.exec) (hb : c.code = cc) (hdg : decode cc pc = .ok (.tableswitch dflt lo hi offs, len)) (h : (x.toInt < lo ∨ hi < x.toInt) ∨ (¬ x.toInt < lo ∧ ¬ hi < x.toInt ∧ offs[(x.toInt - lo).toNat]? = some dflt)) (ht : (pc : Int) + dflt = (tgt : Int)) (k : W p l e R s m args below meth c H locs 0 0 Q (F0 m tgt ls rest)) : W p l e R s m args below meth c H locs 0 0 Q (F0 m pc ls (.int x :: rest)) := by
  rcases h with h | ⟨h1, h2, h3⟩
  · exact lv_tableOut hx hb hdg h ht k
  · exact lv_tableIn hx hb hdg h1 h2 h3 ht k
theorem ret_c {v : Int32} (F : CallFix p m c cc nL s args Ts own) (hr : meth.sig.returnType = some .char) (hk : meth.locks = false) (Z : ZG D w' A s H locs) (hz : isC v = true) (hdg : decode cc pc = .ok (.ireturn, 1)) : W p l e R s m args below meth c H locs 0 0 (MQ below (QC D (some (.int v)) w' A) args s 0 0 A) (F0 m pc ls [.int v]) :=
  W.zret F.1 F.2.1 hr (isC_nar hz) (fun t ht _ => ⟨⟨rfl, by rw [ht]; exact Z.1, Z.2.1⟩, Z.2.2.F ht⟩) Z.2.2.2.2 hdg hk
theorem ret_b {v : Int32} (F : CallFix p m c cc nL s args Ts own) (hr : meth.sig.returnType = some .byte) (hk : meth.locks = false) (Z : ZG D w' A s H locs) (hz : isB v = true) (hdg : decode cc pc = .ok (.ireturn, 1)) : W p l e R s m args below meth c H locs 0 0 (MQ below (QC D (some (.int v)) w' A) args s 0 0 A) (F0 m pc ls [.int v]) :=
  W.zret F.1 F.2.1 hr (isB_nar hz) (fun t ht _ => ⟨⟨rfl, by rw [ht]; exact Z.1, Z.2.1⟩, Z.2.2.F ht⟩) Z.2.2.2.2 hdg hk
variable {cy : Nat → ClassId} {ee : EE} {y : MethodName} {bytes : ByteArray} {maxL : Nat} {ret : Option FieldType} {fr lo : Nat} {As : List Value} {rv : Option Value} {cw : Cond} {index n : Nat} {b : Nat}
theorem call_K (i : Nat) (F : CallFix p m c cc nL s args (cw :: Gw) own) (K : va_K D vwCl (tyL cy) s) (E : EV ee A s s.heap) (hA : ∀ q, s.heap.size ≤ q → A q) (Z : ZG D w A s H locs) (hC : CT l y bytes maxL ret fr lo D cy ee w w' (.ref (ee.1 i) :: As) rv)
    (hw : Cond.code y bytes maxL ret ∈ Gw ∧ Cond.methodLink own index y ∈ Gw ∧ Cond.instanceMethod y ∈ Gw ∧ Cond.selects "java/lang/String" y y ∈ Gw ∧ Cond.initialized "java/lang/String" ∈ Gw) (hd : y.cls = "java/lang/String" ∧ y.cls ≠ "java/lang/invoke/MethodHandle" ∧ y.cls ≠ "java/lang/invoke/VarHandle" ∧ (parseMethodDescriptor y.desc).map (fun d => d.parameters.length) = some n)
    (hi : i < 5) (hR : fr + 1 ≤ R.frames ∧ 8 + (maxL + 11) + lo ≤ R.locals) (hn : As.length = n) (hl : ls.size = nL) (hst : (rest.map fun v => v.category).sum ≤ 8) (hdg : decode cc pc = .ok (.invokevirtual index, 3))
    (kk : ∀ (H1 : Heap) (locs1 : List Loc), ZG D w' A s H1 locs1 → W p l e R s m args below meth c H1 locs1 0 0 Q (F0 m (pc + 3) ls (rv.toList ++ rest))) : W p l e R s m args below meth c H locs 0 0 Q (F0 m pc ls (As.reverse ++ .ref (ee.1 i) :: rest)) := by
  have hG : GoodIn (cw :: Gw) (wsV own index "java/lang/String" y (Cond.code y bytes maxL ret :: Gw)) := good_of hw.1 (fun w h => by
    simp only [List.mem_cons, List.not_mem_nil, or_false] at h
    rcases h with h | h | h | h
    · rw [h]; exact hw.2.1
    · rw [h]; exact hw.2.2.1
    · rw [h]; exact hw.2.2.2.1
    · rw [h]; exact hw.2.2.2.2)
  have hp := pre_of (As := .ref (ee.1 i) :: As) K E Z hA
  exact call_go (va_runV (As := As) (rest := rest) F (hC H.size) (cwV n F.2.2.2.2 hG rfl rfl rfl hd hR) ⟨hp.1, vk_recv E.2.1 hi Z.2.2, hp.2⟩ rfl hn hl rfl (lv_room hst) hdg ⟨Nat.zero_le _, Nat.zero_le _⟩) Z.2.2 (sub_A Z hA) kk
end BASE2
