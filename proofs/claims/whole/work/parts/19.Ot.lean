def f_X10_begin_22 (n : Nat) (st : StT) (x1 : Int32) (x2 : Int32) : Option (Int32 × StT) := if x1 < 0 then (some (x1, st)) else (if (4008 : Int32) ≤ x1 then (some (x1, st)) else (if inB x1 4008 = true then (some (x1, (uA st 15 x1 (x2 <<< ((2 : Int32) &&& 31))))) else none))
theorem wd568 : Cond.fieldLink RX10 22 "WorldProver$Writer" "termPath" "[I" ∈ Gw := gT1 (List.mem_of_getElem? (i := 185) rfl) rfl
theorem wd569 : Cond.fieldLink RX10 44 "WorldProver$Writer" "around" "I" ∈ Gw := gT1 (List.mem_of_getElem? (i := 186) rfl) rfl
section
variable {p : Program} {l : Launch} {e : Env} {R : Room} {s : State} {m : MethodId} {args : Array Value} {below : List Frame} {meth : Method} {c : Code} {H : Heap} {locs : List Loc} {Q : State → Prop}
variable {cc : ByteArray} {nL pc : Nat} {ls : Array Slot} {rest : List Value} {D : va_G} {A : Nat → Prop} {cw : Cond} {ad : Nat → Nat} {cy : Nat → ClassId} {ee : EE} {st : StT} {own : String}
theorem grX10_22_18 (F : CallFix p m c cc nL s args (cw :: Gw) RX10) (K : va_K D vwCl (tyL cy) s) (Z : ZG D (wC ad cy st) A s H locs) (hd : decode cc pc = .ok (.getfield 22, 3)) (kk : W p l e R s m args below meth c H locs 0 0 Q (F0 m (pc + 3) ls (.ref (ad 22) :: rest))) : W p l e R s m args below meth c H locs 0 0 Q (F0 m pc ls (.ref (ad 18) :: rest)) :=
  va_get (D := D) (ci := 10) (C := RX10) (T := TX10) (N := 8) F.1 F.2.1 F.2.2.2.2 (fun w h => List.mem_cons_of_mem _ (inG_X10 w h)) F.2.2.2.1 K Z.1 18 rfl rfl 6 (by decide) (F.2.2.2.2 _ (List.mem_cons_of_mem _ wd568)) (fun _ h => h) rfl hd kk
theorem al22 {i : Int32} (F : CallFix p m c cc nL s args (cw :: Gw) own) (K : va_K D vwCl (tyL cy) s) (Z : ZG D (wC ad cy st) A s H locs) (hi : inB i 4008 = true) (hd : decode cc pc = .ok (.iaload, 1)) (kk : W p l e R s m args below meth c H locs 0 0 Q (F0 m (pc + 1) ls (.int (st.2.1 15 i.toNatClampNeg) :: rest))) : W p l e R s m args below meth c H locs 0 0 Q (F0 m pc ls (.int i :: .ref (ad 22) :: rest)) :=
  va_iald F.1 F.2.1 K Z.1 22 1 rfl rfl (inB_vp hi) hd kk
theorem as22 {i : Int32} {v : Int32} (F : CallFix p m c cc nL s args (cw :: Gw) own) (K : va_K D vwCl (tyL cy) s) (Z : ZG D (wC ad cy st) A s H locs) (hi : inB i 4008 = true) (hd : decode cc pc = .ok (.iastore, 1)) (kk : ∀ (H1 : Heap) (locs1 : List Loc), ZG D (wC ad cy (uA st 15 i v)) A s H1 locs1 → W p l e R s m args below meth c H1 locs1 0 0 Q (F0 m (pc + 1) ls rest)) : W p l e R s m args below meth c H locs 0 0 Q (F0 m pc ls (.int v :: .int i :: .ref (ad 22) :: rest)) :=
  va_iast F.1 F.2.1 K Z.1 Z.2.1 Z.2.2 22 1 rfl rfl (inB_vp hi) hd (fun H1 locs1 hP hD hS => kk H1 locs1 ⟨hP, hD, hS⟩)
theorem grX10_44_18 (F : CallFix p m c cc nL s args (cw :: Gw) RX10) (K : va_K D vwCl (tyL cy) s) (Z : ZG D (wC ad cy st) A s H locs) (hd : decode cc pc = .ok (.getfield 44, 3)) (kk : W p l e R s m args below meth c H locs 0 0 Q (F0 m (pc + 3) ls (.int (st.1 15) :: rest))) : W p l e R s m args below meth c H locs 0 0 Q (F0 m pc ls (.ref (ad 18) :: rest)) :=
  va_get (D := D) (ci := 10) (C := RX10) (T := TX10) (N := 8) F.1 F.2.1 F.2.2.2.2 (fun w h => List.mem_cons_of_mem _ (inG_X10 w h)) F.2.2.2.1 K Z.1 18 rfl rfl 7 (by decide) (F.2.2.2.2 _ (List.mem_cons_of_mem _ wd569)) (fun _ h => h) rfl hd kk
theorem prX10_44_18 {v : Int32} (F : CallFix p m c cc nL s args (cw :: Gw) RX10) (K : va_K D vwCl (tyL cy) s) (Z : ZG D (wC ad cy st) A s H locs) (hd : decode cc pc = .ok (.putfield 44, 3)) (kk : ∀ (H1 : Heap) (locs1 : List Loc), ZG D (wC ad cy (uF st 15 v)) A s H1 locs1 → W p l e R s m args below meth c H1 locs1 0 0 Q (F0 m (pc + 3) ls rest)) : W p l e R s m args below meth c H locs 0 0 Q (F0 m pc ls (.int v :: .ref (ad 18) :: rest)) :=
  va_put (D := D) (ci := 10) (v := .int v) (ty := .int) (C := RX10) (T := TX10) (N := 8) F.1 F.2.1 F.2.2.2.2 (fun w h => List.mem_cons_of_mem _ (inG_X10 w h)) tyX10 tyX10_ok nmX10 F.2.2.2.1 K Z.1 Z.2.1 Z.2.2 18 rfl rfl 7 (by decide) (F.2.2.2.2 _ (List.mem_cons_of_mem _ wd569)) (fun _ h => h) rfl (by decide +kernel) rfl rfl (Nat.le_of_ble_eq_true rfl) hd (fun H1 locs1 hP hD hS => kk H1 locs1 ⟨hP, hD, hS⟩)
theorem an22 (F : CallFix p m c cc nL s args (cw :: Gw) own) (K : va_K D vwCl (tyL cy) s) (Z : ZG D (wC ad cy st) A s H locs) (hd : decode cc pc = .ok (.arraylength, 1)) (kk : W p l e R s m args below meth c H locs 0 0 Q (F0 m (pc + 1) ls (.int 4008 :: rest))) : W p l e R s m args below meth c H locs 0 0 Q (F0 m pc ls (.ref (ad 22) :: rest)) :=
  va_alen F.1 F.2.1 K Z.1 22 1 rfl rfl (show Int32.ofNat 4008 = 4008 by decide) hd kk
end
set_option maxRecDepth 100000 in
set_option maxHeartbeats 4000000 in
theorem c_X10_begin_22 {l : Launch} {D : va_G} {ad : Nat → Nat} {cy : Nat → ClassId} {ee : EE} {n : Nat} {st : StT} {x1 : Int32} {x2 : Int32} {res : (Int32 × StT)} (hf : f_X10_begin_22 n st x1 x2 = some res) : CT l yX10_begin cX10_begin 3 (some .int) 0 0 D cy ee (wC ad cy st) (wC ad cy res.2) [.ref (ad 22), .int x1, .int x2] (some (.int res.1)) := by
  refine CT.of (by decide +kernel) (Nat.le_of_ble_eq_true rfl) ?_
  intro p e s m args below meth c A F hr hk K E hA Z ls hl
  have hl : lv_has ls 3 [(0, .ref (ad 22)), (1, .int x1), (2, .int x2)] := hl
  have hx := F.1
  have hb := F.2.1
  unfold f_X10_begin_22 at hf
  refine lv_iload_n hx hb dX10_begin_0 rfl (lv_at hl 1 rfl) ?_
  refine lv_if_lt (tgt := 16) hx hb dX10_begin_1 (by decide) (fun c1 => ?_) (fun c1 => ?_)
  · have hf := if_t c1 hf
    refine lv_iload_n hx hb dX10_begin_16 rfl (lv_at hl 1 rfl) ?_
    have hf := Option.some.inj hf
    subst hf
    exact ret_i F hr hk Z dX10_begin_17
  have hf := if_f c1 hf
  refine lv_iload_n hx hb dX10_begin_4 rfl (lv_at hl 1 rfl) ?_
  refine lv_aload_n hx hb dX10_begin_5 rfl (lv_at hl 0 rfl) ?_
  refine an22 F K Z dX10_begin_6 ?_
  refine lv_icmp_ge (tgt := 16) hx hb dX10_begin_7 (by decide) (fun c7 => ?_) (fun c7 => ?_)
  · have hf := if_t c7 hf
    refine lv_iload_n hx hb dX10_begin_16 rfl (lv_at hl 1 rfl) ?_
    have hf := Option.some.inj hf
    subst hf
    exact ret_i F hr hk Z dX10_begin_17
  have hf := if_f c7 hf
  refine lv_aload_n hx hb dX10_begin_10 rfl (lv_at hl 0 rfl) ?_
  refine lv_iload_n hx hb dX10_begin_11 rfl (lv_at hl 1 rfl) ?_
  refine lv_iload_n hx hb dX10_begin_12 rfl (lv_at hl 2 rfl) ?_
  refine lv_iconst (v := 2) hx hb dX10_begin_13 (by decide) ?_
  refine lv_ishl hx hb dX10_begin_14 ?_
  obtain ⟨i15, hf⟩ := if_some hf
  refine as22 F K Z i15 dX10_begin_15 (fun H locs Z => ?_)
  refine lv_iload_n hx hb dX10_begin_16 rfl (lv_at hl 1 rfl) ?_
  have hf := Option.some.inj hf
  subst hf
  exact ret_i F hr hk Z dX10_begin_17
def f_X10_putPartBegin_24_54 (n : Nat) (st : StT) (x2 : Int32) (x3 : Int32) (x4 : Int32) : Option StT := (f_X7_binds n st x4 x3).bind fun q57 => (if q57.1 = 0 then (some q57.2) else ((f_X7_numberBound_T1 n q57.2 x2 (q57.2.1 15)).bind fun q69 => (some (uF q69 15 ((q69.1 15) + (1 : Int32))))))
def f_X10_putPartBegin_24_32 (n : Nat) (st : StT) (x2 : Int32) (x3 : Int32) (x4 : Int32) : Option StT := if x4 = (76 : Int32) then ((f_X7_formulaOf_T1 n st x2).bind fun q42 => ((f_X10_putFormula n q42.2 q42.1).bind fun q45 => ((f_X10_put n q45 (44 : Int32)).bind fun q51 => (f_X10_putPartBegin_24_54 n q51 x2 x3 x4)))) else (f_X10_putPartBegin_24_54 n st x2 x3 x4)
def f_X10_putPartBegin_24 (n : Nat) (st : StT) (x2 : Int32) (x3 : Int32) : Option StT := (f_X7_kindOf_T1 n st x2).bind fun q2 => (if x3 ≤ 0 then ((f_X10_put n q2.2 q2.1).bind fun q23 => ((f_X10_put n q23 (40 : Int32)).bind fun q29 => (f_X10_putPartBegin_24_32 n q29 x2 x3 q2.1))) else ((f_X10_put n q2.2 (44 : Int32)).bind fun q14 => (f_X10_putPartBegin_24_32 n q14 x2 x3 q2.1)))
theorem wd570 : Cond.methodLink RX10 115 yX7_kindOf ∈ Gw := gT5 (List.mem_of_getElem? (i := 8) rfl) rfl
theorem wd571 : Cond.code yX7_kindOf prog_9_method_12_code 2 (some .int) ∈ Gw := gT5 (List.mem_of_getElem? (i := 11) rfl) rfl
theorem wd572 : Cond.instanceMethod yX7_kindOf ∈ Gw := gT5 (List.mem_of_getElem? (i := 9) rfl) rfl
theorem wd573 : Cond.selects RX7 yX7_kindOf yX7_kindOf ∈ Gw := gT5 (List.mem_of_getElem? (i := 10) rfl) rfl
theorem wd574 : Cond.methodLink RX10 36 yX10_putFormula ∈ Gw := gT3 (List.mem_of_getElem? (i := 203) rfl) rfl
theorem wd575 : Cond.code yX10_putFormula prog_12_method_10_code 7 none ∈ Gw := gT3 (List.mem_of_getElem? (i := 206) rfl) rfl
theorem wd576 : Cond.instanceMethod yX10_putFormula ∈ Gw := gT3 (List.mem_of_getElem? (i := 205) rfl) rfl
theorem wd577 : Cond.selects RX10 yX10_putFormula yX10_putFormula ∈ Gw := gP2 (q := (yX10_putFormula, 8)) (List.mem_of_getElem? (i := 2) rfl)
theorem wd578 : Cond.methodLink RX10 141 yX7_formulaOf ∈ Gw := gT5 (List.mem_of_getElem? (i := 43) rfl) rfl
theorem wd579 : Cond.code yX7_formulaOf prog_9_method_15_code 2 (some .int) ∈ Gw := gT5 (List.mem_of_getElem? (i := 46) rfl) rfl
theorem wd580 : Cond.instanceMethod yX7_formulaOf ∈ Gw := gT5 (List.mem_of_getElem? (i := 44) rfl) rfl
theorem wd581 : Cond.selects RX7 yX7_formulaOf yX7_formulaOf ∈ Gw := gT5 (List.mem_of_getElem? (i := 45) rfl) rfl
theorem wd582 : Cond.methodLink RX10 144 yX7_numberBound ∈ Gw := gT5 (List.mem_of_getElem? (i := 47) rfl) rfl
theorem wd583 : Cond.code yX7_numberBound prog_9_method_16_code 4 none ∈ Gw := gT5 (List.mem_of_getElem? (i := 50) rfl) rfl
theorem wd584 : Cond.instanceMethod yX7_numberBound ∈ Gw := gT5 (List.mem_of_getElem? (i := 48) rfl) rfl
theorem wd585 : Cond.selects RX7 yX7_numberBound yX7_numberBound ∈ Gw := gT5 (List.mem_of_getElem? (i := 49) rfl) rfl
theorem wd586 : Cond.methodLink RX10 118 yX7_binds ∈ Gw := gT5 (List.mem_of_getElem? (i := 16) rfl) rfl
theorem wd587 : Cond.code yX7_binds prog_9_method_3_code 2 (some .boolean) ∈ Gw := gT5 (List.mem_of_getElem? (i := 18) rfl) rfl
theorem wd588 : Cond.static yX7_binds ∈ Gw := gT5 (List.mem_of_getElem? (i := 17) rfl) rfl
section
variable {p : Program} {l : Launch} {e : Env} {R : Room} {s : State} {m : MethodId} {args : Array Value} {below : List Frame} {meth : Method} {c : Code} {H : Heap} {locs : List Loc} {Q : State → Prop}
variable {cc : ByteArray} {nL pc : Nat} {ls : Array Slot} {rest : List Value} {D : va_G} {A : Nat → Prop} {cw : Cond} {ad : Nat → Nat} {cy : Nat → ClassId} {ee : EE} {st : StT} {own : String}
theorem krX10_115_X7_kindOf_T1 {n : Nat} {a0 : Int32} {q : (Int32 × StT)} (F : CallFix p m c cc nL s args (cw :: Gw) RX10) (K : va_K D vwCl (tyL cy) s) (E : EV ee A s s.heap) (hA : ∀ q, s.heap.size ≤ q → A q) (Z : ZG D (wC ad cy st) A s H locs) (hf : f_X7_kindOf_T1 n st a0 = some q) (hR : 2 ≤ R.frames ∧ 42 ≤ R.locals) (hl : ls.size = nL) (hst : (rest.map fun v => v.category).sum ≤ 8) (hd : decode cc pc = .ok (.invokevirtual 115, 3)) (kk : ∀ (H1 : Heap) (locs1 : List Loc), ZG D (wC ad cy q.2) A s H1 locs1 → W p l e R s m args below meth c H1 locs1 0 0 Q (F0 m (pc + 3) ls (.int q.1 :: rest))) : W p l e R s m args below meth c H locs 0 0 Q (F0 m pc ls (.int a0 :: .ref (ad 24) :: rest)) :=
  call_V (q := (RX7, TX7, 7)) (n := 1) (As := [.int a0]) (rv := some (.int q.1)) 24 7 F K E hA Z (c_X7_kindOf_T1 (l := l) (D := D) (ad := ad) (cy := cy) (ee := ee) hf) ⟨wd571, wd570, wd572, wd573, wd60⟩ (by decide +kernel) rfl rfl hR rfl hl hst hd kk
theorem krX10_36_X10_putFormula {n : Nat} {a0 : Int32} {q : StT} (F : CallFix p m c cc nL s args (cw :: Gw) RX10) (K : va_K D vwCl (tyL cy) s) (E : EV ee A s s.heap) (hA : ∀ q, s.heap.size ≤ q → A q) (Z : ZG D (wC ad cy st) A s H locs) (hf : f_X10_putFormula n st a0 = some q) (hR : 7 ≤ R.frames ∧ 155 ≤ R.locals) (hl : ls.size = nL) (hst : (rest.map fun v => v.category).sum ≤ 8) (hd : decode cc pc = .ok (.invokevirtual 36, 3)) (kk : ∀ (H1 : Heap) (locs1 : List Loc), ZG D (wC ad cy q) A s H1 locs1 → W p l e R s m args below meth c H1 locs1 0 0 Q (F0 m (pc + 3) ls (rest))) : W p l e R s m args below meth c H locs 0 0 Q (F0 m pc ls (.int a0 :: .ref (ad 18) :: rest)) :=
  call_V (q := (RX10, TX10, 8)) (n := 1) (As := [.int a0]) (rv := none) 18 10 F K E hA Z (c_X10_putFormula (l := l) (D := D) (ad := ad) (cy := cy) (ee := ee) hf) ⟨wd575, wd574, wd576, wd577, wd519⟩ (by decide +kernel) rfl rfl hR rfl hl hst hd kk
theorem krX10_141_X7_formulaOf_T1 {n : Nat} {a0 : Int32} {q : (Int32 × StT)} (F : CallFix p m c cc nL s args (cw :: Gw) RX10) (K : va_K D vwCl (tyL cy) s) (E : EV ee A s s.heap) (hA : ∀ q, s.heap.size ≤ q → A q) (Z : ZG D (wC ad cy st) A s H locs) (hf : f_X7_formulaOf_T1 n st a0 = some q) (hR : 3 ≤ R.frames ∧ 64 ≤ R.locals) (hl : ls.size = nL) (hst : (rest.map fun v => v.category).sum ≤ 8) (hd : decode cc pc = .ok (.invokevirtual 141, 3)) (kk : ∀ (H1 : Heap) (locs1 : List Loc), ZG D (wC ad cy q.2) A s H1 locs1 → W p l e R s m args below meth c H1 locs1 0 0 Q (F0 m (pc + 3) ls (.int q.1 :: rest))) : W p l e R s m args below meth c H locs 0 0 Q (F0 m pc ls (.int a0 :: .ref (ad 24) :: rest)) :=
  call_V (q := (RX7, TX7, 7)) (n := 1) (As := [.int a0]) (rv := some (.int q.1)) 24 7 F K E hA Z (c_X7_formulaOf_T1 (l := l) (D := D) (ad := ad) (cy := cy) (ee := ee) hf) ⟨wd579, wd578, wd580, wd581, wd60⟩ (by decide +kernel) rfl rfl hR rfl hl hst hd kk
theorem krX10_144_X7_numberBound_T1 {n : Nat} {a0 : Int32} {a1 : Int32} {q : StT} (F : CallFix p m c cc nL s args (cw :: Gw) RX10) (K : va_K D vwCl (tyL cy) s) (E : EV ee A s s.heap) (hA : ∀ q, s.heap.size ≤ q → A q) (Z : ZG D (wC ad cy st) A s H locs) (hf : f_X7_numberBound_T1 n st a0 a1 = some q) (hR : 2 ≤ R.frames ∧ 44 ≤ R.locals) (hl : ls.size = nL) (hst : (rest.map fun v => v.category).sum ≤ 8) (hd : decode cc pc = .ok (.invokevirtual 144, 3)) (kk : ∀ (H1 : Heap) (locs1 : List Loc), ZG D (wC ad cy q) A s H1 locs1 → W p l e R s m args below meth c H1 locs1 0 0 Q (F0 m (pc + 3) ls (rest))) : W p l e R s m args below meth c H locs 0 0 Q (F0 m pc ls (.int a1 :: .int a0 :: .ref (ad 24) :: rest)) :=
  call_V (q := (RX7, TX7, 7)) (n := 2) (As := [.int a0, .int a1]) (rv := none) 24 7 F K E hA Z (c_X7_numberBound_T1 (l := l) (D := D) (ad := ad) (cy := cy) (ee := ee) hf) ⟨wd583, wd582, wd584, wd585, wd60⟩ (by decide +kernel) rfl rfl hR rfl hl hst hd kk
theorem krX10_118_X7_binds {n : Nat} {a0 : Int32} {a1 : Int32} {q : (Int32 × StT)} (F : CallFix p m c cc nL s args (cw :: Gw) RX10) (K : va_K D vwCl (tyL cy) s) (E : EV ee A s s.heap) (hA : ∀ q, s.heap.size ≤ q → A q) (Z : ZG D (wC ad cy st) A s H locs) (hf : f_X7_binds n st a0 a1 = some q) (hR : 1 ≤ R.frames ∧ 21 ≤ R.locals) (hl : ls.size = nL) (hst : (rest.map fun v => v.category).sum ≤ 8) (hd : decode cc pc = .ok (.invokestatic 118, 3)) (kk : ∀ (H1 : Heap) (locs1 : List Loc), ZG D (wC ad cy q.2) A s H1 locs1 → W p l e R s m args below meth c H1 locs1 0 0 Q (F0 m (pc + 3) ls (.int q.1 :: rest))) : W p l e R s m args below meth c H locs 0 0 Q (F0 m pc ls (.int a1 :: .int a0 :: rest)) :=
  call_S (n := 2) (As := [.int a0, .int a1]) (rv := some (.int q.1)) F K E hA Z (c_X7_binds (l := l) (D := D) (ad := ad) (cy := cy) (ee := ee) hf) ⟨wd587, wd586, wd588, wd60⟩ (by decide +kernel) hR rfl hl hst hd kk
end
set_option maxRecDepth 100000 in
set_option maxHeartbeats 4000000 in
theorem b_X10_putPartBegin_24_54 {p : Program} {l : Launch} {e : Env} {s : State} {m : MethodId} {args : Array Value} {below : List Frame} {meth : Method} {c : Code} {D : va_G} {A : Nat → Prop} {ad : Nat → Nat} {cy : Nat → ClassId} {ee : EE} {n : Nat} {res : StT} (F : CallFix p m c cX10_putPartBegin 5 s args (Cond.code yX10_putPartBegin cX10_putPartBegin 5 none :: Gw) yX10_putPartBegin.cls) (hr : meth.sig.returnType = none) (hk : meth.locks = false) (K : va_K D vwCl (tyL cy) s) (E : EV ee A s s.heap) (hA : ∀ q, s.heap.size ≤ q → A q) : ∀ (st : StT) (x2 : Int32) (x3 : Int32) (x4 : Int32), f_X10_putPartBegin_24_54 n st x2 x3 x4 = some res → ∀ (H : Heap) (locs : List Loc) (ls : Array Slot), ZG D (wC ad cy st) A s H locs → lv_has ls 5 [(0, .ref (ad 18)), (1, .ref (ad 24)), (2, .int x2), (3, .int x3), (4, .int x4)] → W p l e { frames := 7, cells := 0, slots := 0, locals := 155 } s m args below meth c H locs 0 0 (MQ below (QC D (none) (wC ad cy res) A) args s 0 0 A) (F0 m 54 ls []) := by
  have hx := F.1
  have hb := F.2.1
  intro st x2 x3 x4 hf H locs ls Z hl
  unfold f_X10_putPartBegin_24_54 at hf
  refine lv_iload hx hb dX10_putPartBegin_54 (lv_at hl 4 rfl) ?_
  refine lv_iload_n hx hb dX10_putPartBegin_56 rfl (lv_at hl 3 rfl) ?_
  obtain ⟨q57, h57, hf⟩ := bind_some hf
  refine krX10_118_X7_binds F K E hA Z h57 ⟨Nat.le_of_ble_eq_true rfl, Nat.le_of_ble_eq_true rfl⟩ hl.1 (Nat.le_of_ble_eq_true rfl) dX10_putPartBegin_57 (fun H locs Z => ?_)
  refine lv_if_eq (tgt := 82) hx hb dX10_putPartBegin_60 (by decide) (fun c60 => ?_) (fun c60 => ?_)
  · have hf := if_t c60 hf
    have hf := Option.some.inj hf
    subst hf
    exact ret_v F hr hk Z dX10_putPartBegin_82
  have hf := if_f c60 hf
  refine lv_aload_n hx hb dX10_putPartBegin_63 rfl (lv_at hl 1 rfl) ?_
  refine lv_iload_n hx hb dX10_putPartBegin_64 rfl (lv_at hl 2 rfl) ?_
  refine lv_aload_n hx hb dX10_putPartBegin_65 rfl (lv_at hl 0 rfl) ?_
  refine grX10_44_18 F K Z dX10_putPartBegin_66 ?_
  obtain ⟨q69, h69, hf⟩ := bind_some hf
  refine krX10_144_X7_numberBound_T1 F K E hA Z h69 ⟨Nat.le_of_ble_eq_true rfl, Nat.le_of_ble_eq_true rfl⟩ hl.1 (Nat.le_of_ble_eq_true rfl) dX10_putPartBegin_69 (fun H locs Z => ?_)
  refine lv_aload_n hx hb dX10_putPartBegin_72 rfl (lv_at hl 0 rfl) ?_
  refine lv_dup hx hb dX10_putPartBegin_73 rfl ?_
  refine grX10_44_18 F K Z dX10_putPartBegin_74 ?_
  refine lv_iconst (v := 1) hx hb dX10_putPartBegin_77 (by decide) ?_
  refine lv_iadd hx hb dX10_putPartBegin_78 ?_
  refine prX10_44_18 F K Z dX10_putPartBegin_79 (fun H locs Z => ?_)
  have hf := Option.some.inj hf
  subst hf
  exact ret_v F hr hk Z dX10_putPartBegin_82
set_option maxRecDepth 100000 in
set_option maxHeartbeats 4000000 in
theorem b_X10_putPartBegin_24_32 {p : Program} {l : Launch} {e : Env} {s : State} {m : MethodId} {args : Array Value} {below : List Frame} {meth : Method} {c : Code} {D : va_G} {A : Nat → Prop} {ad : Nat → Nat} {cy : Nat → ClassId} {ee : EE} {n : Nat} {res : StT} (F : CallFix p m c cX10_putPartBegin 5 s args (Cond.code yX10_putPartBegin cX10_putPartBegin 5 none :: Gw) yX10_putPartBegin.cls) (hr : meth.sig.returnType = none) (hk : meth.locks = false) (K : va_K D vwCl (tyL cy) s) (E : EV ee A s s.heap) (hA : ∀ q, s.heap.size ≤ q → A q) : ∀ (st : StT) (x2 : Int32) (x3 : Int32) (x4 : Int32), f_X10_putPartBegin_24_32 n st x2 x3 x4 = some res → ∀ (H : Heap) (locs : List Loc) (ls : Array Slot), ZG D (wC ad cy st) A s H locs → lv_has ls 5 [(0, .ref (ad 18)), (1, .ref (ad 24)), (2, .int x2), (3, .int x3), (4, .int x4)] → W p l e { frames := 7, cells := 0, slots := 0, locals := 155 } s m args below meth c H locs 0 0 (MQ below (QC D (none) (wC ad cy res) A) args s 0 0 A) (F0 m 32 ls []) := by
  have hx := F.1
  have hb := F.2.1
  intro st x2 x3 x4 hf H locs ls Z hl
  unfold f_X10_putPartBegin_24_32 at hf
  refine lv_iload hx hb dX10_putPartBegin_32 (lv_at hl 4 rfl) ?_
  refine lv_bipush (v := 76) hx hb dX10_putPartBegin_34 (by decide) ?_
  refine lv_icmp_ne (tgt := 54) hx hb dX10_putPartBegin_36 (by decide) (fun c36 => ?_) (fun c36 => ?_)
  · have hf := if_f c36 hf
    exact b_X10_putPartBegin_24_54 F hr hk K E hA _ _ _ _ hf _ _ _ Z hl
  have hf := if_t c36 hf
  refine lv_aload_n hx hb dX10_putPartBegin_39 rfl (lv_at hl 0 rfl) ?_
  refine lv_aload_n hx hb dX10_putPartBegin_40 rfl (lv_at hl 1 rfl) ?_
  refine lv_iload_n hx hb dX10_putPartBegin_41 rfl (lv_at hl 2 rfl) ?_
  obtain ⟨q42, h42, hf⟩ := bind_some hf
  refine krX10_141_X7_formulaOf_T1 F K E hA Z h42 ⟨Nat.le_of_ble_eq_true rfl, Nat.le_of_ble_eq_true rfl⟩ hl.1 (Nat.le_of_ble_eq_true rfl) dX10_putPartBegin_42 (fun H locs Z => ?_)
  obtain ⟨q45, h45, hf⟩ := bind_some hf
  refine krX10_36_X10_putFormula F K E hA Z h45 ⟨Nat.le_of_ble_eq_true rfl, Nat.le_of_ble_eq_true rfl⟩ hl.1 (Nat.le_of_ble_eq_true rfl) dX10_putPartBegin_45 (fun H locs Z => ?_)
  refine lv_aload_n hx hb dX10_putPartBegin_48 rfl (lv_at hl 0 rfl) ?_
  refine lv_bipush (v := 44) hx hb dX10_putPartBegin_49 (by decide) ?_
  obtain ⟨q51, h51, hf⟩ := bind_some hf
  refine krX10_70_X10_put F K E hA Z h51 ⟨Nat.le_of_ble_eq_true rfl, Nat.le_of_ble_eq_true rfl⟩ hl.1 (Nat.le_of_ble_eq_true rfl) dX10_putPartBegin_51 (fun H locs Z => ?_)
  exact b_X10_putPartBegin_24_54 F hr hk K E hA _ _ _ _ hf _ _ _ Z hl
set_option maxRecDepth 100000 in
set_option maxHeartbeats 4000000 in
theorem c_X10_putPartBegin_24 {l : Launch} {D : va_G} {ad : Nat → Nat} {cy : Nat → ClassId} {ee : EE} {n : Nat} {st : StT} {x2 : Int32} {x3 : Int32} {res : StT} (hf : f_X10_putPartBegin_24 n st x2 x3 = some res) : CT l yX10_putPartBegin cX10_putPartBegin 5 none 7 155 D cy ee (wC ad cy st) (wC ad cy res) [.ref (ad 18), .ref (ad 24), .int x2, .int x3] (none) := by
  refine CT.of (by decide +kernel) (Nat.le_of_ble_eq_true rfl) ?_
  intro p e s m args below meth c A F hr hk K E hA Z ls hl
  have hl : lv_has ls 5 [(0, .ref (ad 18)), (1, .ref (ad 24)), (2, .int x2), (3, .int x3)] := hl
  have hx := F.1
  have hb := F.2.1
  unfold f_X10_putPartBegin_24 at hf
  refine lv_aload_n hx hb dX10_putPartBegin_0 rfl (lv_at hl 1 rfl) ?_
  refine lv_iload_n hx hb dX10_putPartBegin_1 rfl (lv_at hl 2 rfl) ?_
  obtain ⟨q2, h2, hf⟩ := bind_some hf
  refine krX10_115_X7_kindOf_T1 F K E hA Z h2 ⟨Nat.le_of_ble_eq_true rfl, Nat.le_of_ble_eq_true rfl⟩ hl.1 (Nat.le_of_ble_eq_true rfl) dX10_putPartBegin_2 (fun H locs Z => ?_)
  refine lv_istore (lv' := [(4, .int q2.1), (0, .ref (ad 18)), (1, .ref (ad 24)), (2, .int x2), (3, .int x3)]) hx hb dX10_putPartBegin_5 hl (by decide) rfl (fun ls hl => ?_)
  refine lv_iload_n hx hb dX10_putPartBegin_7 rfl (lv_at hl 4 rfl) ?_
  refine lv_if_le (tgt := 20) hx hb dX10_putPartBegin_8 (by decide) (fun c8 => ?_) (fun c8 => ?_)
  · have hf := if_t c8 hf
    refine lv_aload_n hx hb dX10_putPartBegin_20 rfl (lv_at hl 1 rfl) ?_
    refine lv_iload hx hb dX10_putPartBegin_21 (lv_at hl 0 rfl) ?_
    obtain ⟨q23, h23, hf⟩ := bind_some hf
    refine krX10_70_X10_put F K E hA Z h23 ⟨Nat.le_of_ble_eq_true rfl, Nat.le_of_ble_eq_true rfl⟩ hl.1 (Nat.le_of_ble_eq_true rfl) dX10_putPartBegin_23 (fun H locs Z => ?_)
    refine lv_aload_n hx hb dX10_putPartBegin_26 rfl (lv_at hl 1 rfl) ?_
    refine lv_bipush (v := 40) hx hb dX10_putPartBegin_27 (by decide) ?_
    obtain ⟨q29, h29, hf⟩ := bind_some hf
    refine krX10_70_X10_put F K E hA Z h29 ⟨Nat.le_of_ble_eq_true rfl, Nat.le_of_ble_eq_true rfl⟩ hl.1 (Nat.le_of_ble_eq_true rfl) dX10_putPartBegin_29 (fun H locs Z => ?_)
    exact b_X10_putPartBegin_24_32 F hr hk K E hA _ _ _ _ hf _ _ _ Z (lv_sub hl [1, 2, 3, 4, 0] rfl)
  have hf := if_f c8 hf
  refine lv_aload_n hx hb dX10_putPartBegin_11 rfl (lv_at hl 1 rfl) ?_
  refine lv_bipush (v := 44) hx hb dX10_putPartBegin_12 (by decide) ?_
  obtain ⟨q14, h14, hf⟩ := bind_some hf
  refine krX10_70_X10_put F K E hA Z h14 ⟨Nat.le_of_ble_eq_true rfl, Nat.le_of_ble_eq_true rfl⟩ hl.1 (Nat.le_of_ble_eq_true rfl) dX10_putPartBegin_14 (fun H locs Z => ?_)
  refine lv_goto (tgt := 32) hx hb dX10_putPartBegin_17 (by decide) ?_
  exact b_X10_putPartBegin_24_32 F hr hk K E hA _ _ _ _ hf _ _ _ Z (lv_sub hl [1, 2, 3, 4, 0] rfl)
def f_X10_putLeaf_24 (n : Nat) (st : StT) (x2 : Int32) (x3 : Int32) : Option StT := (f_X10_put n st x2).bind fun q2 => (if x2 = (104 : Int32) then ((f_X7_numberOf_T1 n q2 x3).bind fun q14 => ((f_X10_putNumber n q14.2 q14.1).bind fun q17 => (some q17))) else (some q2))
theorem wd589 : Cond.methodLink RX10 138 yX10_putNumber ∈ Gw := gT5 (List.mem_of_getElem? (i := 34) rfl) rfl
theorem wd590 : Cond.code yX10_putNumber prog_12_method_9_code 3 none ∈ Gw := gT5 (List.mem_of_getElem? (i := 37) rfl) rfl
theorem wd591 : Cond.instanceMethod yX10_putNumber ∈ Gw := gT5 (List.mem_of_getElem? (i := 36) rfl) rfl
theorem wd592 : Cond.selects RX10 yX10_putNumber yX10_putNumber ∈ Gw := gP3 (q := (yX10_putNumber, 8)) (List.mem_of_getElem? (i := 15) rfl)
theorem wd593 : Cond.methodLink RX10 135 yX7_numberOf ∈ Gw := gT5 (List.mem_of_getElem? (i := 26) rfl) rfl
theorem wd594 : Cond.code yX7_numberOf prog_9_method_14_code 2 (some .int) ∈ Gw := gT5 (List.mem_of_getElem? (i := 29) rfl) rfl
theorem wd595 : Cond.instanceMethod yX7_numberOf ∈ Gw := gT5 (List.mem_of_getElem? (i := 27) rfl) rfl
theorem wd596 : Cond.selects RX7 yX7_numberOf yX7_numberOf ∈ Gw := gT5 (List.mem_of_getElem? (i := 28) rfl) rfl
section
variable {p : Program} {l : Launch} {e : Env} {R : Room} {s : State} {m : MethodId} {args : Array Value} {below : List Frame} {meth : Method} {c : Code} {H : Heap} {locs : List Loc} {Q : State → Prop}
variable {cc : ByteArray} {nL pc : Nat} {ls : Array Slot} {rest : List Value} {D : va_G} {A : Nat → Prop} {cw : Cond} {ad : Nat → Nat} {cy : Nat → ClassId} {ee : EE} {st : StT} {own : String}
theorem krX10_138_X10_putNumber {n : Nat} {a0 : Int32} {q : StT} (F : CallFix p m c cc nL s args (cw :: Gw) RX10) (K : va_K D vwCl (tyL cy) s) (E : EV ee A s s.heap) (hA : ∀ q, s.heap.size ≤ q → A q) (Z : ZG D (wC ad cy st) A s H locs) (hf : f_X10_putNumber n st a0 = some q) (hR : 3 ≤ R.frames ∧ 64 ≤ R.locals) (hl : ls.size = nL) (hst : (rest.map fun v => v.category).sum ≤ 8) (hd : decode cc pc = .ok (.invokevirtual 138, 3)) (kk : ∀ (H1 : Heap) (locs1 : List Loc), ZG D (wC ad cy q) A s H1 locs1 → W p l e R s m args below meth c H1 locs1 0 0 Q (F0 m (pc + 3) ls (rest))) : W p l e R s m args below meth c H locs 0 0 Q (F0 m pc ls (.int a0 :: .ref (ad 18) :: rest)) :=
  call_V (q := (RX10, TX10, 8)) (n := 1) (As := [.int a0]) (rv := none) 18 10 F K E hA Z (c_X10_putNumber (l := l) (D := D) (ad := ad) (cy := cy) (ee := ee) hf) ⟨wd590, wd589, wd591, wd592, wd519⟩ (by decide +kernel) rfl rfl hR rfl hl hst hd kk
theorem krX10_135_X7_numberOf_T1 {n : Nat} {a0 : Int32} {q : (Int32 × StT)} (F : CallFix p m c cc nL s args (cw :: Gw) RX10) (K : va_K D vwCl (tyL cy) s) (E : EV ee A s s.heap) (hA : ∀ q, s.heap.size ≤ q → A q) (Z : ZG D (wC ad cy st) A s H locs) (hf : f_X7_numberOf_T1 n st a0 = some q) (hR : 3 ≤ R.frames ∧ 64 ≤ R.locals) (hl : ls.size = nL) (hst : (rest.map fun v => v.category).sum ≤ 8) (hd : decode cc pc = .ok (.invokevirtual 135, 3)) (kk : ∀ (H1 : Heap) (locs1 : List Loc), ZG D (wC ad cy q.2) A s H1 locs1 → W p l e R s m args below meth c H1 locs1 0 0 Q (F0 m (pc + 3) ls (.int q.1 :: rest))) : W p l e R s m args below meth c H locs 0 0 Q (F0 m pc ls (.int a0 :: .ref (ad 24) :: rest)) :=
  call_V (q := (RX7, TX7, 7)) (n := 1) (As := [.int a0]) (rv := some (.int q.1)) 24 7 F K E hA Z (c_X7_numberOf_T1 (l := l) (D := D) (ad := ad) (cy := cy) (ee := ee) hf) ⟨wd594, wd593, wd595, wd596, wd60⟩ (by decide +kernel) rfl rfl hR rfl hl hst hd kk
end
set_option maxRecDepth 100000 in
set_option maxHeartbeats 4000000 in
theorem c_X10_putLeaf_24 {l : Launch} {D : va_G} {ad : Nat → Nat} {cy : Nat → ClassId} {ee : EE} {n : Nat} {st : StT} {x2 : Int32} {x3 : Int32} {res : StT} (hf : f_X10_putLeaf_24 n st x2 x3 = some res) : CT l yX10_putLeaf cX10_putLeaf 4 none 3 64 D cy ee (wC ad cy st) (wC ad cy res) [.ref (ad 18), .ref (ad 24), .int x2, .int x3] (none) := by
  refine CT.of (by decide +kernel) (Nat.le_of_ble_eq_true rfl) ?_
  intro p e s m args below meth c A F hr hk K E hA Z ls hl
  have hl : lv_has ls 4 [(0, .ref (ad 18)), (1, .ref (ad 24)), (2, .int x2), (3, .int x3)] := hl
  have hx := F.1
  have hb := F.2.1
  unfold f_X10_putLeaf_24 at hf
  refine lv_aload_n hx hb dX10_putLeaf_0 rfl (lv_at hl 0 rfl) ?_
  refine lv_iload_n hx hb dX10_putLeaf_1 rfl (lv_at hl 2 rfl) ?_
  obtain ⟨q2, h2, hf⟩ := bind_some hf
  refine krX10_70_X10_put F K E hA Z h2 ⟨Nat.le_of_ble_eq_true rfl, Nat.le_of_ble_eq_true rfl⟩ hl.1 (Nat.le_of_ble_eq_true rfl) dX10_putLeaf_2 (fun H locs Z => ?_)
  refine lv_iload_n hx hb dX10_putLeaf_5 rfl (lv_at hl 2 rfl) ?_
  refine lv_bipush (v := 104) hx hb dX10_putLeaf_6 (by decide) ?_
  refine lv_icmp_ne (tgt := 20) hx hb dX10_putLeaf_8 (by decide) (fun c8 => ?_) (fun c8 => ?_)
  · have hf := if_f c8 hf
    have hf := Option.some.inj hf
    subst hf
    exact ret_v F hr hk Z dX10_putLeaf_20
  have hf := if_t c8 hf
  refine lv_aload_n hx hb dX10_putLeaf_11 rfl (lv_at hl 0 rfl) ?_
  refine lv_aload_n hx hb dX10_putLeaf_12 rfl (lv_at hl 1 rfl) ?_
  refine lv_iload_n hx hb dX10_putLeaf_13 rfl (lv_at hl 3 rfl) ?_
  obtain ⟨q14, h14, hf⟩ := bind_some hf
  refine krX10_135_X7_numberOf_T1 F K E hA Z h14 ⟨Nat.le_of_ble_eq_true rfl, Nat.le_of_ble_eq_true rfl⟩ hl.1 (Nat.le_of_ble_eq_true rfl) dX10_putLeaf_14 (fun H locs Z => ?_)
  obtain ⟨q17, h17, hf⟩ := bind_some hf
  refine krX10_138_X10_putNumber F K E hA Z h17 ⟨Nat.le_of_ble_eq_true rfl, Nat.le_of_ble_eq_true rfl⟩ hl.1 (Nat.le_of_ble_eq_true rfl) dX10_putLeaf_17 (fun H locs Z => ?_)
  have hf := Option.some.inj hf
  subst hf
  exact ret_v F hr hk Z dX10_putLeaf_20
def f_X10_putTerm_24_104 (n : Nat) (k13 : StT → Int32 → Int32 → Option StT) (st : StT) (x3 : Int32) (x4 : Int32) (x5 : Int32) (x6 : Int32) (x7 : Int32) : Option StT := (f_X7_partsOf n st x7).bind fun q106 => (if q106.1 = 0 then ((f_X10_putLeaf_24 n q106.2 x7 x5).bind fun q118 => (k13 q118 (x3 + (-1 : Int32)) (x4 + (1 : Int32)))) else ((f_X7_partsOf n q106.2 x7).bind fun q131 => (if x6 = q131.1 then ((f_X10_put n q131.2 (41 : Int32)).bind fun q140 => (k13 q140 (x3 + (-1 : Int32)) (x4 + (1 : Int32)))) else ((f_X10_putPartBegin_24 n q131.2 x5 x6).bind fun q155 => ((f_X7_partOf_T1 n q155 x5 x6).bind fun q170 => ((f_X10_begin_22 n q170.2 (x3 + (1 : Int32)) q170.1).bind fun q173 => (k13 q173.2 q173.1 (x4 + (1 : Int32)))))))))
def f_X10_putTerm_24_13 (n : Nat) : Nat → StT → Int32 → Int32 → Option StT
  | 0, _, _, _ => none
  | k + 1, st, x3, x4 => if (16000 : Int32) ≤ x4 then (some st) else (if x3 < 0 then (some st) else (if (4008 : Int32) ≤ x3 then (some st) else ((f_X10_overflows n st).bind fun q33 => (if q33.1 = 0 then (if inB x3 4008 = true then (if inB x3 4008 = true then ((f_X7_kindOf_T1 n q33.2 ((q33.2.2.1 15 (x3).toNatClampNeg) >>> ((2 : Int32) &&& 31))).bind fun q62 => (if inB x3 4008 = true then (if inB x3 4008 = true then (if ((q33.2.2.1 15 (x3).toNatClampNeg) &&& (3 : Int32)) ≤ 0 then (f_X10_putTerm_24_104 n (f_X10_putTerm_24_13 n k) (uA q62.2 15 x3 ((q62.2.2.1 15 (x3).toNatClampNeg) + (1 : Int32))) x3 x4 ((q33.2.2.1 15 (x3).toNatClampNeg) >>> ((2 : Int32) &&& 31)) ((q33.2.2.1 15 (x3).toNatClampNeg) &&& (3 : Int32)) q62.1) else ((f_X7_binds n (uA q62.2 15 x3 ((q62.2.2.1 15 (x3).toNatClampNeg) + (1 : Int32))) q62.1 (((q33.2.2.1 15 (x3).toNatClampNeg) &&& (3 : Int32)) - (1 : Int32))).bind fun q88 => (if q88.1 = 0 then (f_X10_putTerm_24_104 n (f_X10_putTerm_24_13 n k) q88.2 x3 x4 ((q33.2.2.1 15 (x3).toNatClampNeg) >>> ((2 : Int32) &&& 31)) ((q33.2.2.1 15 (x3).toNatClampNeg) &&& (3 : Int32)) q62.1) else (f_X10_putTerm_24_104 n (f_X10_putTerm_24_13 n k) (uF q88.2 15 ((q88.2.1 15) - (1 : Int32))) x3 x4 ((q33.2.2.1 15 (x3).toNatClampNeg) >>> ((2 : Int32) &&& 31)) ((q33.2.2.1 15 (x3).toNatClampNeg) &&& (3 : Int32)) q62.1)))) else none) else none)) else none) else none) else (some q33.2)))))
def f_X10_putTerm_24 (n : Nat) (st : StT) (x2 : Int32) : Option StT := (f_X10_begin_22 n st (0 : Int32) x2).bind fun q6 => (f_X10_putTerm_24_13 n n q6.2 q6.1 (0 : Int32))
theorem wd597 : Cond.methodLink RX10 132 yX7_partOf ∈ Gw := gT5 (List.mem_of_getElem? (i := 51) rfl) rfl
theorem wd598 : Cond.methodLink RX10 129 yX10_putPartBegin ∈ Gw := gT5 (List.mem_of_getElem? (i := 39) rfl) rfl
theorem wd599 : Cond.code yX10_putPartBegin prog_12_method_17_code 5 none ∈ Gw := gT5 (List.mem_of_getElem? (i := 42) rfl) rfl
theorem wd600 : Cond.instanceMethod yX10_putPartBegin ∈ Gw := gT5 (List.mem_of_getElem? (i := 41) rfl) rfl
theorem wd601 : Cond.selects RX10 yX10_putPartBegin yX10_putPartBegin ∈ Gw := gP4 (q := (yX10_putPartBegin, 8)) (List.mem_of_getElem? (i := 0) rfl)
theorem wd602 : Cond.methodLink RX10 122 yX7_partsOf ∈ Gw := gT5 (List.mem_of_getElem? (i := 19) rfl) rfl
theorem wd603 : Cond.code yX7_partsOf prog_9_method_2_code 1 (some .int) ∈ Gw := gT5 (List.mem_of_getElem? (i := 21) rfl) rfl
theorem wd604 : Cond.static yX7_partsOf ∈ Gw := gT5 (List.mem_of_getElem? (i := 20) rfl) rfl
theorem wd605 : Cond.methodLink RX10 125 yX10_putLeaf ∈ Gw := gT5 (List.mem_of_getElem? (i := 22) rfl) rfl
theorem wd606 : Cond.code yX10_putLeaf prog_12_method_16_code 4 none ∈ Gw := gT5 (List.mem_of_getElem? (i := 25) rfl) rfl
theorem wd607 : Cond.instanceMethod yX10_putLeaf ∈ Gw := gT5 (List.mem_of_getElem? (i := 24) rfl) rfl
theorem wd608 : Cond.selects RX10 yX10_putLeaf yX10_putLeaf ∈ Gw := gP3 (q := (yX10_putLeaf, 8)) (List.mem_of_getElem? (i := 14) rfl)
section
variable {p : Program} {l : Launch} {e : Env} {R : Room} {s : State} {m : MethodId} {args : Array Value} {below : List Frame} {meth : Method} {c : Code} {H : Heap} {locs : List Loc} {Q : State → Prop}
variable {cc : ByteArray} {nL pc : Nat} {ls : Array Slot} {rest : List Value} {D : va_G} {A : Nat → Prop} {cw : Cond} {ad : Nat → Nat} {cy : Nat → ClassId} {ee : EE} {st : StT} {own : String}
theorem krX10_74_X10_begin_22 {n : Nat} {a1 : Int32} {a2 : Int32} {q : (Int32 × StT)} (F : CallFix p m c cc nL s args (cw :: Gw) RX10) (K : va_K D vwCl (tyL cy) s) (E : EV ee A s s.heap) (hA : ∀ q, s.heap.size ≤ q → A q) (Z : ZG D (wC ad cy st) A s H locs) (hf : f_X10_begin_22 n st a1 a2 = some q) (hR : 1 ≤ R.frames ∧ 22 ≤ R.locals) (hl : ls.size = nL) (hst : (rest.map fun v => v.category).sum ≤ 8) (hd : decode cc pc = .ok (.invokestatic 74, 3)) (kk : ∀ (H1 : Heap) (locs1 : List Loc), ZG D (wC ad cy q.2) A s H1 locs1 → W p l e R s m args below meth c H1 locs1 0 0 Q (F0 m (pc + 3) ls (.int q.1 :: rest))) : W p l e R s m args below meth c H locs 0 0 Q (F0 m pc ls (.int a2 :: .int a1 :: .ref (ad 22) :: rest)) :=
  call_S (n := 3) (As := [.ref (ad 22), .int a1, .int a2]) (rv := some (.int q.1)) F K E hA Z (c_X10_begin_22 (l := l) (D := D) (ad := ad) (cy := cy) (ee := ee) hf) ⟨wd552, wd551, wd553, wd519⟩ (by decide +kernel) hR rfl hl hst hd kk
theorem krX10_132_X7_partOf_T1 {n : Nat} {a0 : Int32} {a1 : Int32} {q : (Int32 × StT)} (F : CallFix p m c cc nL s args (cw :: Gw) RX10) (K : va_K D vwCl (tyL cy) s) (E : EV ee A s s.heap) (hA : ∀ q, s.heap.size ≤ q → A q) (Z : ZG D (wC ad cy st) A s H locs) (hf : f_X7_partOf_T1 n st a0 a1 = some q) (hR : 2 ≤ R.frames ∧ 43 ≤ R.locals) (hl : ls.size = nL) (hst : (rest.map fun v => v.category).sum ≤ 8) (hd : decode cc pc = .ok (.invokevirtual 132, 3)) (kk : ∀ (H1 : Heap) (locs1 : List Loc), ZG D (wC ad cy q.2) A s H1 locs1 → W p l e R s m args below meth c H1 locs1 0 0 Q (F0 m (pc + 3) ls (.int q.1 :: rest))) : W p l e R s m args below meth c H locs 0 0 Q (F0 m pc ls (.int a1 :: .int a0 :: .ref (ad 24) :: rest)) :=
  call_V (q := (RX7, TX7, 7)) (n := 2) (As := [.int a0, .int a1]) (rv := some (.int q.1)) 24 7 F K E hA Z (c_X7_partOf_T1 (l := l) (D := D) (ad := ad) (cy := cy) (ee := ee) hf) ⟨wd66, wd597, wd67, wd68, wd60⟩ (by decide +kernel) rfl rfl hR rfl hl hst hd kk
theorem krX10_129_X10_putPartBegin_24 {n : Nat} {a1 : Int32} {a2 : Int32} {q : StT} (F : CallFix p m c cc nL s args (cw :: Gw) RX10) (K : va_K D vwCl (tyL cy) s) (E : EV ee A s s.heap) (hA : ∀ q, s.heap.size ≤ q → A q) (Z : ZG D (wC ad cy st) A s H locs) (hf : f_X10_putPartBegin_24 n st a1 a2 = some q) (hR : 8 ≤ R.frames ∧ 179 ≤ R.locals) (hl : ls.size = nL) (hst : (rest.map fun v => v.category).sum ≤ 8) (hd : decode cc pc = .ok (.invokevirtual 129, 3)) (kk : ∀ (H1 : Heap) (locs1 : List Loc), ZG D (wC ad cy q) A s H1 locs1 → W p l e R s m args below meth c H1 locs1 0 0 Q (F0 m (pc + 3) ls (rest))) : W p l e R s m args below meth c H locs 0 0 Q (F0 m pc ls (.int a2 :: .int a1 :: .ref (ad 24) :: .ref (ad 18) :: rest)) :=
  call_V (q := (RX10, TX10, 8)) (n := 3) (As := [.ref (ad 24), .int a1, .int a2]) (rv := none) 18 10 F K E hA Z (c_X10_putPartBegin_24 (l := l) (D := D) (ad := ad) (cy := cy) (ee := ee) hf) ⟨wd599, wd598, wd600, wd601, wd519⟩ (by decide +kernel) rfl rfl hR rfl hl hst hd kk
theorem krX10_122_X7_partsOf {n : Nat} {a0 : Int32} {q : (Int32 × StT)} (F : CallFix p m c cc nL s args (cw :: Gw) RX10) (K : va_K D vwCl (tyL cy) s) (E : EV ee A s s.heap) (hA : ∀ q, s.heap.size ≤ q → A q) (Z : ZG D (wC ad cy st) A s H locs) (hf : f_X7_partsOf n st a0 = some q) (hR : 1 ≤ R.frames ∧ 20 ≤ R.locals) (hl : ls.size = nL) (hst : (rest.map fun v => v.category).sum ≤ 8) (hd : decode cc pc = .ok (.invokestatic 122, 3)) (kk : ∀ (H1 : Heap) (locs1 : List Loc), ZG D (wC ad cy q.2) A s H1 locs1 → W p l e R s m args below meth c H1 locs1 0 0 Q (F0 m (pc + 3) ls (.int q.1 :: rest))) : W p l e R s m args below meth c H locs 0 0 Q (F0 m pc ls (.int a0 :: rest)) :=
  call_S (n := 1) (As := [.int a0]) (rv := some (.int q.1)) F K E hA Z (c_X7_partsOf (l := l) (D := D) (ad := ad) (cy := cy) (ee := ee) hf) ⟨wd603, wd602, wd604, wd60⟩ (by decide +kernel) hR rfl hl hst hd kk
theorem krX10_125_X10_putLeaf_24 {n : Nat} {a1 : Int32} {a2 : Int32} {q : StT} (F : CallFix p m c cc nL s args (cw :: Gw) RX10) (K : va_K D vwCl (tyL cy) s) (E : EV ee A s s.heap) (hA : ∀ q, s.heap.size ≤ q → A q) (Z : ZG D (wC ad cy st) A s H locs) (hf : f_X10_putLeaf_24 n st a1 a2 = some q) (hR : 4 ≤ R.frames ∧ 87 ≤ R.locals) (hl : ls.size = nL) (hst : (rest.map fun v => v.category).sum ≤ 8) (hd : decode cc pc = .ok (.invokevirtual 125, 3)) (kk : ∀ (H1 : Heap) (locs1 : List Loc), ZG D (wC ad cy q) A s H1 locs1 → W p l e R s m args below meth c H1 locs1 0 0 Q (F0 m (pc + 3) ls (rest))) : W p l e R s m args below meth c H locs 0 0 Q (F0 m pc ls (.int a2 :: .int a1 :: .ref (ad 24) :: .ref (ad 18) :: rest)) :=
  call_V (q := (RX10, TX10, 8)) (n := 3) (As := [.ref (ad 24), .int a1, .int a2]) (rv := none) 18 10 F K E hA Z (c_X10_putLeaf_24 (l := l) (D := D) (ad := ad) (cy := cy) (ee := ee) hf) ⟨wd606, wd605, wd607, wd608, wd519⟩ (by decide +kernel) rfl rfl hR rfl hl hst hd kk
end
set_option maxRecDepth 100000 in
set_option maxHeartbeats 4000000 in
theorem b_X10_putTerm_24_104 {p : Program} {l : Launch} {e : Env} {s : State} {m : MethodId} {args : Array Value} {below : List Frame} {meth : Method} {c : Code} {D : va_G} {A : Nat → Prop} {ad : Nat → Nat} {cy : Nat → ClassId} {ee : EE} {n : Nat} {res : StT} (F : CallFix p m c cX10_putTerm 8 s args (Cond.code yX10_putTerm cX10_putTerm 8 none :: Gw) yX10_putTerm.cls) (hr : meth.sig.returnType = none) (hk : meth.locks = false) (K : va_K D vwCl (tyL cy) s) (E : EV ee A s s.heap) (hA : ∀ q, s.heap.size ≤ q → A q) {k13 : StT → Int32 → Int32 → Option StT} (hk13 : ∀ (st : StT) (x3 : Int32) (x4 : Int32), k13 st x3 x4 = some res → ∀ (H : Heap) (locs : List Loc) (ls : Array Slot), ZG D (wC ad cy st) A s H locs → lv_has ls 8 [(0, .ref (ad 18)), (1, .ref (ad 24)), (3, .int x3), (4, .int x4)] → W p l e { frames := 8, cells := 0, slots := 0, locals := 179 } s m args below meth c H locs 0 0 (MQ below (QC D (none) (wC ad cy res) A) args s 0 0 A) (F0 m 13 ls [])) : ∀ (st : StT) (x3 : Int32) (x4 : Int32) (x5 : Int32) (x6 : Int32) (x7 : Int32), f_X10_putTerm_24_104 n k13 st x3 x4 x5 x6 x7 = some res → ∀ (H : Heap) (locs : List Loc) (ls : Array Slot), ZG D (wC ad cy st) A s H locs → lv_has ls 8 [(0, .ref (ad 18)), (1, .ref (ad 24)), (3, .int x3), (4, .int x4), (5, .int x5), (6, .int x6), (7, .int x7)] → W p l e { frames := 8, cells := 0, slots := 0, locals := 179 } s m args below meth c H locs 0 0 (MQ below (QC D (none) (wC ad cy res) A) args s 0 0 A) (F0 m 104 ls []) := by
  have hx := F.1
  have hb := F.2.1
  intro st x3 x4 x5 x6 x7 hf H locs ls Z hl
  unfold f_X10_putTerm_24_104 at hf
  refine lv_iload hx hb dX10_putTerm_104 (lv_at hl 6 rfl) ?_
  obtain ⟨q106, h106, hf⟩ := bind_some hf
  refine krX10_122_X7_partsOf F K E hA Z h106 ⟨Nat.le_of_ble_eq_true rfl, Nat.le_of_ble_eq_true rfl⟩ hl.1 (Nat.le_of_ble_eq_true rfl) dX10_putTerm_106 (fun H locs Z => ?_)
  refine lv_if_ne (tgt := 127) hx hb dX10_putTerm_109 (by decide) (fun c109 => ?_) (fun c109 => ?_)
  · have hf := if_f c109 hf
    refine lv_iload hx hb dX10_putTerm_127 (lv_at hl 5 rfl) ?_
    refine lv_iload hx hb dX10_putTerm_129 (lv_at hl 6 rfl) ?_
    obtain ⟨q131, h131, hf⟩ := bind_some hf
    refine krX10_122_X7_partsOf F K E hA Z h131 ⟨Nat.le_of_ble_eq_true rfl, Nat.le_of_ble_eq_true rfl⟩ hl.1 (Nat.le_of_ble_eq_true rfl) dX10_putTerm_131 (fun H locs Z => ?_)
    refine lv_icmp_ne (tgt := 149) hx hb dX10_putTerm_134 (by decide) (fun c134 => ?_) (fun c134 => ?_)
    · have hf := if_f c134 hf
      refine lv_aload_n hx hb dX10_putTerm_149 rfl (lv_at hl 0 rfl) ?_
      refine lv_aload_n hx hb dX10_putTerm_150 rfl (lv_at hl 1 rfl) ?_
      refine lv_iload hx hb dX10_putTerm_151 (lv_at hl 4 rfl) ?_
      refine lv_iload hx hb dX10_putTerm_153 (lv_at hl 5 rfl) ?_
      obtain ⟨q155, h155, hf⟩ := bind_some hf
      refine krX10_129_X10_putPartBegin_24 F K E hA Z h155 ⟨Nat.le_of_ble_eq_true rfl, Nat.le_of_ble_eq_true rfl⟩ hl.1 (Nat.le_of_ble_eq_true rfl) dX10_putTerm_155 (fun H locs Z => ?_)
      refine lv_aload_n hx hb dX10_putTerm_158 rfl (lv_at hl 0 rfl) ?_
      refine grX10_22_18 F K Z dX10_putTerm_159 ?_
      refine lv_iload_n hx hb dX10_putTerm_162 rfl (lv_at hl 2 rfl) ?_
      refine lv_iconst (v := 1) hx hb dX10_putTerm_163 (by decide) ?_
      refine lv_iadd hx hb dX10_putTerm_164 ?_
      refine lv_aload_n hx hb dX10_putTerm_165 rfl (lv_at hl 1 rfl) ?_
      refine lv_iload hx hb dX10_putTerm_166 (lv_at hl 4 rfl) ?_
      refine lv_iload hx hb dX10_putTerm_168 (lv_at hl 5 rfl) ?_
      obtain ⟨q170, h170, hf⟩ := bind_some hf
      refine krX10_132_X7_partOf_T1 F K E hA Z h170 ⟨Nat.le_of_ble_eq_true rfl, Nat.le_of_ble_eq_true rfl⟩ hl.1 (Nat.le_of_ble_eq_true rfl) dX10_putTerm_170 (fun H locs Z => ?_)
      obtain ⟨q173, h173, hf⟩ := bind_some hf
      refine krX10_74_X10_begin_22 F K E hA Z h173 ⟨Nat.le_of_ble_eq_true rfl, Nat.le_of_ble_eq_true rfl⟩ hl.1 (Nat.le_of_ble_eq_true rfl) dX10_putTerm_173 (fun H locs Z => ?_)
      refine lv_istore_n (lv' := [(3, .int q173.1), (0, .ref (ad 18)), (1, .ref (ad 24)), (4, .int x4), (5, .int x5), (6, .int x6), (7, .int x7)]) hx hb dX10_putTerm_176 rfl hl (by decide) rfl (fun ls hl => ?_)
      refine lv_iinc (v := (x4 + (1 : Int32))) (lv' := [(4, .int (x4 + (1 : Int32))), (3, .int q173.1), (0, .ref (ad 18)), (1, .ref (ad 24)), (5, .int x5), (6, .int x6), (7, .int x7)]) hx hb dX10_putTerm_177 hl (k := 3) rfl (congrArg (fun z => x4 + z) (by decide)) (by decide) rfl (fun ls hl => ?_)
      refine lv_goto (tgt := 13) hx hb dX10_putTerm_180 (by decide) ?_
      exact hk13 _ _ _ hf _ _ _ Z (lv_sub hl [2, 3, 1, 0] rfl)
    have hf := if_t c134 hf
    refine lv_aload_n hx hb dX10_putTerm_137 rfl (lv_at hl 0 rfl) ?_
    refine lv_bipush (v := 41) hx hb dX10_putTerm_138 (by decide) ?_
    obtain ⟨q140, h140, hf⟩ := bind_some hf
    refine krX10_70_X10_put F K E hA Z h140 ⟨Nat.le_of_ble_eq_true rfl, Nat.le_of_ble_eq_true rfl⟩ hl.1 (Nat.le_of_ble_eq_true rfl) dX10_putTerm_140 (fun H locs Z => ?_)
    refine lv_iinc (v := (x3 + (-1 : Int32))) (lv' := [(3, .int (x3 + (-1 : Int32))), (0, .ref (ad 18)), (1, .ref (ad 24)), (4, .int x4), (5, .int x5), (6, .int x6), (7, .int x7)]) hx hb dX10_putTerm_143 hl (k := 2) rfl (congrArg (fun z => x3 + z) (by decide)) (by decide) rfl (fun ls hl => ?_)
    refine lv_goto (tgt := 177) hx hb dX10_putTerm_146 (by decide) ?_
    refine lv_iinc (v := (x4 + (1 : Int32))) (lv' := [(4, .int (x4 + (1 : Int32))), (3, .int (x3 + (-1 : Int32))), (0, .ref (ad 18)), (1, .ref (ad 24)), (5, .int x5), (6, .int x6), (7, .int x7)]) hx hb dX10_putTerm_177 hl (k := 3) rfl (congrArg (fun z => x4 + z) (by decide)) (by decide) rfl (fun ls hl => ?_)
    refine lv_goto (tgt := 13) hx hb dX10_putTerm_180 (by decide) ?_
    exact hk13 _ _ _ hf _ _ _ Z (lv_sub hl [2, 3, 1, 0] rfl)
  have hf := if_t c109 hf
  refine lv_aload_n hx hb dX10_putTerm_112 rfl (lv_at hl 0 rfl) ?_
  refine lv_aload_n hx hb dX10_putTerm_113 rfl (lv_at hl 1 rfl) ?_
  refine lv_iload hx hb dX10_putTerm_114 (lv_at hl 6 rfl) ?_
  refine lv_iload hx hb dX10_putTerm_116 (lv_at hl 4 rfl) ?_
  obtain ⟨q118, h118, hf⟩ := bind_some hf
  refine krX10_125_X10_putLeaf_24 F K E hA Z h118 ⟨Nat.le_of_ble_eq_true rfl, Nat.le_of_ble_eq_true rfl⟩ hl.1 (Nat.le_of_ble_eq_true rfl) dX10_putTerm_118 (fun H locs Z => ?_)
  refine lv_iinc (v := (x3 + (-1 : Int32))) (lv' := [(3, .int (x3 + (-1 : Int32))), (0, .ref (ad 18)), (1, .ref (ad 24)), (4, .int x4), (5, .int x5), (6, .int x6), (7, .int x7)]) hx hb dX10_putTerm_121 hl (k := 2) rfl (congrArg (fun z => x3 + z) (by decide)) (by decide) rfl (fun ls hl => ?_)
  refine lv_goto (tgt := 177) hx hb dX10_putTerm_124 (by decide) ?_
  refine lv_iinc (v := (x4 + (1 : Int32))) (lv' := [(4, .int (x4 + (1 : Int32))), (3, .int (x3 + (-1 : Int32))), (0, .ref (ad 18)), (1, .ref (ad 24)), (5, .int x5), (6, .int x6), (7, .int x7)]) hx hb dX10_putTerm_177 hl (k := 3) rfl (congrArg (fun z => x4 + z) (by decide)) (by decide) rfl (fun ls hl => ?_)
  refine lv_goto (tgt := 13) hx hb dX10_putTerm_180 (by decide) ?_
  exact hk13 _ _ _ hf _ _ _ Z (lv_sub hl [2, 3, 1, 0] rfl)
set_option maxRecDepth 100000 in
set_option maxHeartbeats 4000000 in
theorem b_X10_putTerm_24_13 {p : Program} {l : Launch} {e : Env} {s : State} {m : MethodId} {args : Array Value} {below : List Frame} {meth : Method} {c : Code} {D : va_G} {A : Nat → Prop} {ad : Nat → Nat} {cy : Nat → ClassId} {ee : EE} {n : Nat} {res : StT} (F : CallFix p m c cX10_putTerm 8 s args (Cond.code yX10_putTerm cX10_putTerm 8 none :: Gw) yX10_putTerm.cls) (hr : meth.sig.returnType = none) (hk : meth.locks = false) (K : va_K D vwCl (tyL cy) s) (E : EV ee A s s.heap) (hA : ∀ q, s.heap.size ≤ q → A q) : ∀ (k : Nat) (st : StT) (x3 : Int32) (x4 : Int32), f_X10_putTerm_24_13 n k st x3 x4 = some res → ∀ (H : Heap) (locs : List Loc) (ls : Array Slot), ZG D (wC ad cy st) A s H locs → lv_has ls 8 [(0, .ref (ad 18)), (1, .ref (ad 24)), (3, .int x3), (4, .int x4)] → W p l e { frames := 8, cells := 0, slots := 0, locals := 179 } s m args below meth c H locs 0 0 (MQ below (QC D (none) (wC ad cy res) A) args s 0 0 A) (F0 m 13 ls []) := by
  have hx := F.1
  have hb := F.2.1
  intro k
  induction k with
  | zero =>
    intro st x3 x4 hf
    exact absurd hf (by simp [f_X10_putTerm_24_13])
  | succ k ih =>
    intro st x3 x4 hf H locs ls Z hl
    rw [f_X10_putTerm_24_13] at hf
    refine lv_iload hx hb dX10_putTerm_13 (lv_at hl 3 rfl) ?_
    refine lv_sipush (v := 16000) hx hb dX10_putTerm_15 (by decide) ?_
    refine lv_icmp_ge (tgt := 183) hx hb dX10_putTerm_18 (by decide) (fun c18 => ?_) (fun c18 => ?_)
    · have hf := if_t c18 hf
      have hf := Option.some.inj hf
      subst hf
      exact ret_v F hr hk Z dX10_putTerm_183
    have hf := if_f c18 hf
    refine lv_iload_n hx hb dX10_putTerm_21 rfl (lv_at hl 2 rfl) ?_
    refine lv_if_lt (tgt := 183) hx hb dX10_putTerm_22 (by decide) (fun c22 => ?_) (fun c22 => ?_)
    · have hf := if_t c22 hf
      have hf := Option.some.inj hf
      subst hf
      exact ret_v F hr hk Z dX10_putTerm_183
    have hf := if_f c22 hf
    refine lv_iload_n hx hb dX10_putTerm_25 rfl (lv_at hl 2 rfl) ?_
    refine lv_sipush (v := 4008) hx hb dX10_putTerm_26 (by decide) ?_
    refine lv_icmp_ge (tgt := 183) hx hb dX10_putTerm_29 (by decide) (fun c29 => ?_) (fun c29 => ?_)
    · have hf := if_t c29 hf
      have hf := Option.some.inj hf
      subst hf
      exact ret_v F hr hk Z dX10_putTerm_183
    have hf := if_f c29 hf
    refine lv_aload_n hx hb dX10_putTerm_32 rfl (lv_at hl 0 rfl) ?_
    obtain ⟨q33, h33, hf⟩ := bind_some hf
    refine krX10_51_X10_overflows F K E hA Z h33 ⟨Nat.le_of_ble_eq_true rfl, Nat.le_of_ble_eq_true rfl⟩ hl.1 (Nat.le_of_ble_eq_true rfl) dX10_putTerm_33 (fun H locs Z => ?_)
    refine lv_if_ne (tgt := 183) hx hb dX10_putTerm_36 (by decide) (fun c36 => ?_) (fun c36 => ?_)
    · have hf := if_f c36 hf
      have hf := Option.some.inj hf
      subst hf
      exact ret_v F hr hk Z dX10_putTerm_183
    have hf := if_t c36 hf
    refine lv_aload_n hx hb dX10_putTerm_39 rfl (lv_at hl 0 rfl) ?_
    refine grX10_22_18 F K Z dX10_putTerm_40 ?_
    refine lv_iload_n hx hb dX10_putTerm_43 rfl (lv_at hl 2 rfl) ?_
    obtain ⟨i44, hf⟩ := if_some hf
    refine al22 F K Z i44 dX10_putTerm_44 ?_
    refine lv_iconst (v := 2) hx hb dX10_putTerm_45 (by decide) ?_
    refine lv_ishr hx hb dX10_putTerm_46 ?_
    refine lv_istore (lv' := [(5, .int ((q33.2.2.1 15 (x3).toNatClampNeg) >>> ((2 : Int32) &&& 31))), (0, .ref (ad 18)), (1, .ref (ad 24)), (3, .int x3), (4, .int x4)]) hx hb dX10_putTerm_47 hl (by decide) rfl (fun ls hl => ?_)
    refine lv_aload_n hx hb dX10_putTerm_49 rfl (lv_at hl 1 rfl) ?_
    refine grX10_22_18 F K Z dX10_putTerm_50 ?_
    refine lv_iload_n hx hb dX10_putTerm_53 rfl (lv_at hl 3 rfl) ?_
    obtain ⟨i54, hf⟩ := if_some hf
    refine al22 F K Z i54 dX10_putTerm_54 ?_
    refine lv_iconst (v := 3) hx hb dX10_putTerm_55 (by decide) ?_
    refine lv_iand hx hb dX10_putTerm_56 ?_
    refine lv_istore (lv' := [(6, .int ((q33.2.2.1 15 (x3).toNatClampNeg) &&& (3 : Int32))), (5, .int ((q33.2.2.1 15 (x3).toNatClampNeg) >>> ((2 : Int32) &&& 31))), (0, .ref (ad 18)), (1, .ref (ad 24)), (3, .int x3), (4, .int x4)]) hx hb dX10_putTerm_57 hl (by decide) rfl (fun ls hl => ?_)
    refine lv_aload_n hx hb dX10_putTerm_59 rfl (lv_at hl 3 rfl) ?_
    refine lv_iload hx hb dX10_putTerm_60 (lv_at hl 1 rfl) ?_
    obtain ⟨q62, h62, hf⟩ := bind_some hf
    refine krX10_115_X7_kindOf_T1 F K E hA Z h62 ⟨Nat.le_of_ble_eq_true rfl, Nat.le_of_ble_eq_true rfl⟩ hl.1 (Nat.le_of_ble_eq_true rfl) dX10_putTerm_62 (fun H locs Z => ?_)
    refine lv_istore (lv' := [(7, .int q62.1), (6, .int ((q33.2.2.1 15 (x3).toNatClampNeg) &&& (3 : Int32))), (5, .int ((q33.2.2.1 15 (x3).toNatClampNeg) >>> ((2 : Int32) &&& 31))), (0, .ref (ad 18)), (1, .ref (ad 24)), (3, .int x3), (4, .int x4)]) hx hb dX10_putTerm_65 hl (by decide) rfl (fun ls hl => ?_)
    refine lv_aload_n hx hb dX10_putTerm_67 rfl (lv_at hl 3 rfl) ?_
    refine grX10_22_18 F K Z dX10_putTerm_68 ?_
    refine lv_iload_n hx hb dX10_putTerm_71 rfl (lv_at hl 5 rfl) ?_
    refine lv_dup2_11 hx hb dX10_putTerm_72 rfl rfl ?_
    obtain ⟨i73, hf⟩ := if_some hf
    refine al22 F K Z i73 dX10_putTerm_73 ?_
    refine lv_iconst (v := 1) hx hb dX10_putTerm_74 (by decide) ?_
    refine lv_iadd hx hb dX10_putTerm_75 ?_
    obtain ⟨i76, hf⟩ := if_some hf
    refine as22 F K Z i76 dX10_putTerm_76 (fun H locs Z => ?_)
    refine lv_iload hx hb dX10_putTerm_77 (lv_at hl 1 rfl) ?_
    refine lv_if_le (tgt := 104) hx hb dX10_putTerm_79 (by decide) (fun c79 => ?_) (fun c79 => ?_)
    · have hf := if_t c79 hf
      exact b_X10_putTerm_24_104 F hr hk K E hA ih _ _ _ _ _ _ hf _ _ _ Z (lv_sub hl [3, 4, 5, 6, 2, 1, 0] rfl)
    have hf := if_f c79 hf
    refine lv_iload hx hb dX10_putTerm_82 (lv_at hl 0 rfl) ?_
    refine lv_iload hx hb dX10_putTerm_84 (lv_at hl 1 rfl) ?_
    refine lv_iconst (v := 1) hx hb dX10_putTerm_86 (by decide) ?_
    refine lv_isub hx hb dX10_putTerm_87 ?_
    obtain ⟨q88, h88, hf⟩ := bind_some hf
    refine krX10_118_X7_binds F K E hA Z h88 ⟨Nat.le_of_ble_eq_true rfl, Nat.le_of_ble_eq_true rfl⟩ hl.1 (Nat.le_of_ble_eq_true rfl) dX10_putTerm_88 (fun H locs Z => ?_)
    refine lv_if_eq (tgt := 104) hx hb dX10_putTerm_91 (by decide) (fun c91 => ?_) (fun c91 => ?_)
    · have hf := if_t c91 hf
      exact b_X10_putTerm_24_104 F hr hk K E hA ih _ _ _ _ _ _ hf _ _ _ Z (lv_sub hl [3, 4, 5, 6, 2, 1, 0] rfl)
    have hf := if_f c91 hf
    refine lv_aload_n hx hb dX10_putTerm_94 rfl (lv_at hl 3 rfl) ?_
    refine lv_dup hx hb dX10_putTerm_95 rfl ?_
    refine grX10_44_18 F K Z dX10_putTerm_96 ?_
    refine lv_iconst (v := 1) hx hb dX10_putTerm_99 (by decide) ?_
    refine lv_isub hx hb dX10_putTerm_100 ?_
    refine prX10_44_18 F K Z dX10_putTerm_101 (fun H locs Z => ?_)
    exact b_X10_putTerm_24_104 F hr hk K E hA ih _ _ _ _ _ _ hf _ _ _ Z (lv_sub hl [3, 4, 5, 6, 2, 1, 0] rfl)
set_option maxRecDepth 100000 in
set_option maxHeartbeats 4000000 in
theorem c_X10_putTerm_24 {l : Launch} {D : va_G} {ad : Nat → Nat} {cy : Nat → ClassId} {ee : EE} {n : Nat} {st : StT} {x2 : Int32} {res : StT} (hf : f_X10_putTerm_24 n st x2 = some res) : CT l yX10_putTerm cX10_putTerm 8 none 8 179 D cy ee (wC ad cy st) (wC ad cy res) [.ref (ad 18), .ref (ad 24), .int x2] (none) := by
  refine CT.of (by decide +kernel) (Nat.le_of_ble_eq_true rfl) ?_
  intro p e s m args below meth c A F hr hk K E hA Z ls hl
  have hl : lv_has ls 8 [(0, .ref (ad 18)), (1, .ref (ad 24)), (2, .int x2)] := hl
  have hx := F.1
  have hb := F.2.1
  unfold f_X10_putTerm_24 at hf
  refine lv_aload_n hx hb dX10_putTerm_0 rfl (lv_at hl 0 rfl) ?_
  refine grX10_22_18 F K Z dX10_putTerm_1 ?_
  refine lv_iconst (v := 0) hx hb dX10_putTerm_4 (by decide) ?_
  refine lv_iload_n hx hb dX10_putTerm_5 rfl (lv_at hl 2 rfl) ?_
  obtain ⟨q6, h6, hf⟩ := bind_some hf
  refine krX10_74_X10_begin_22 F K E hA Z h6 ⟨Nat.le_of_ble_eq_true rfl, Nat.le_of_ble_eq_true rfl⟩ hl.1 (Nat.le_of_ble_eq_true rfl) dX10_putTerm_6 (fun H locs Z => ?_)
  refine lv_istore_n (lv' := [(3, .int q6.1), (0, .ref (ad 18)), (1, .ref (ad 24)), (2, .int x2)]) hx hb dX10_putTerm_9 rfl hl (by decide) rfl (fun ls hl => ?_)
  refine lv_iconst (v := 0) hx hb dX10_putTerm_10 (by decide) ?_
  refine lv_istore (lv' := [(4, .int (0 : Int32)), (3, .int q6.1), (0, .ref (ad 18)), (1, .ref (ad 24)), (2, .int x2)]) hx hb dX10_putTerm_11 hl (by decide) rfl (fun ls hl => ?_)
  exact b_X10_putTerm_24_13 F hr hk K E hA _ _ _ _ hf _ _ _ Z (lv_sub hl [2, 3, 1, 0] rfl)
