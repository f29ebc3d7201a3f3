def f_X1_many_F0 (n : Nat) (st : StT) : Option (Int32 × StT) := some ((st.1 6), st)
theorem wd0 : Cond.laysFinal RX1 "WorldProver$Formulas" "room" "I" ∈ Gw := gT1 (List.mem_of_getElem? (i := 96) rfl) rfl
theorem wd1 : Cond.laysFinal RX1 "WorldProver$Formulas" "kinds" "[I" ∈ Gw := gT1 (List.mem_of_getElem? (i := 98) rfl) rfl
theorem wd2 : Cond.laysFinal RX1 "WorldProver$Formulas" "firsts" "[I" ∈ Gw := gT1 (List.mem_of_getElem? (i := 100) rfl) rfl
theorem wd3 : Cond.laysFinal RX1 "WorldProver$Formulas" "seconds" "[I" ∈ Gw := gT1 (List.mem_of_getElem? (i := 102) rfl) rfl
theorem wd4 : Cond.laysFinal RX1 "WorldProver$Formulas" "heads" "[I" ∈ Gw := gT1 (List.mem_of_getElem? (i := 104) rfl) rfl
theorem wd5 : Cond.laysFinal RX1 "WorldProver$Formulas" "nexts" "[I" ∈ Gw := gT1 (List.mem_of_getElem? (i := 106) rfl) rfl
theorem wd6 : Cond.laysFinal RX1 "WorldProver$Formulas" "names" "[J" ∈ Gw := gT1 (List.mem_of_getElem? (i := 108) rfl) rfl
theorem wd7 : Cond.lays RX1 "WorldProver$Formulas" "many" "I" ∈ Gw := gT1 (List.mem_of_getElem? (i := 110) rfl) rfl
theorem wd8 : Cond.lays RX1 "WorldProver$Formulas" "variables" "I" ∈ Gw := gT1 (List.mem_of_getElem? (i := 112) rfl) rfl
theorem wd9 : Cond.fieldLink RX1 45 "WorldProver$Formulas" "many" "I" ∈ Gw := gT1 (List.mem_of_getElem? (i := 94) rfl) rfl
theorem inG_X1 : ∀ w ∈ u_ws RX1 TX1 9, w ∈ Gw := by
  intro w h
  obtain ⟨k, hk, rfl⟩ := List.mem_map.mp h
  have hk := List.mem_range.mp hk
  by_cases h0 : k = 0
  · subst h0; exact wd0
  by_cases h1 : k = 1
  · subst h1; exact wd1
  by_cases h2 : k = 2
  · subst h2; exact wd2
  by_cases h3 : k = 3
  · subst h3; exact wd3
  by_cases h4 : k = 4
  · subst h4; exact wd4
  by_cases h5 : k = 5
  · subst h5; exact wd5
  by_cases h6 : k = 6
  · subst h6; exact wd6
  by_cases h7 : k = 7
  · subst h7; exact wd7
  by_cases h8 : k = 8
  · subst h8; exact wd8
  omega
section
variable {p : Program} {l : Launch} {e : Env} {R : Room} {s : State} {m : MethodId} {args : Array Value} {below : List Frame} {meth : Method} {c : Code} {H : Heap} {locs : List Loc} {Q : State → Prop}
variable {cc : ByteArray} {nL pc : Nat} {ls : Array Slot} {rest : List Value} {D : va_G} {A : Nat → Prop} {cw : Cond} {ad : Nat → Nat} {cy : Nat → ClassId} {ee : EE} {st : StT} {own : String}
theorem grX1_45_4 (F : CallFix p m c cc nL s args (cw :: Gw) RX1) (K : va_K D vwCl (tyL cy) s) (Z : ZG D (wC ad cy st) A s H locs) (hd : decode cc pc = .ok (.getfield 45, 3)) (kk : W p l e R s m args below meth c H locs 0 0 Q (F0 m (pc + 3) ls (.int (st.1 6) :: rest))) : W p l e R s m args below meth c H locs 0 0 Q (F0 m pc ls (.ref (ad 4) :: rest)) :=
  va_get (D := D) (ci := 1) (C := RX1) (T := TX1) (N := 9) F.1 F.2.1 F.2.2.2.2 (fun w h => List.mem_cons_of_mem _ (inG_X1 w h)) F.2.2.2.1 K Z.1 4 rfl rfl 7 (by decide) (F.2.2.2.2 _ (List.mem_cons_of_mem _ wd9)) (fun _ h => h) rfl hd kk
end
set_option maxRecDepth 100000 in
set_option maxHeartbeats 4000000 in
theorem c_X1_many_F0 {l : Launch} {D : va_G} {ad : Nat → Nat} {cy : Nat → ClassId} {ee : EE} {n : Nat} {st : StT} {res : (Int32 × StT)} (hf : f_X1_many_F0 n st = some res) : CT l yX1_many cX1_many 1 (some .int) 0 0 D cy ee (wC ad cy st) (wC ad cy res.2) [.ref (ad 4)] (some (.int res.1)) := by
  refine CT.of (by decide +kernel) (Nat.le_of_ble_eq_true rfl) ?_
  intro p e s m args below meth c A F hr hk K E hA Z ls hl
  have hl : lv_has ls 1 [(0, .ref (ad 4))] := hl
  have hx := F.1
  have hb := F.2.1
  unfold f_X1_many_F0 at hf
  refine lv_aload_n hx hb dX1_many_0 rfl (lv_at hl 0 rfl) ?_
  refine grX1_45_4 F K Z dX1_many_1 ?_
  have hf := Option.some.inj hf
  subst hf
  exact ret_i F hr hk Z dX1_many_4
def f_X1_variables_F0 (n : Nat) (st : StT) : Option (Int32 × StT) := some ((st.1 7), st)
theorem wd10 : Cond.fieldLink RX1 48 "WorldProver$Formulas" "variables" "I" ∈ Gw := gT1 (List.mem_of_getElem? (i := 95) rfl) rfl
section
variable {p : Program} {l : Launch} {e : Env} {R : Room} {s : State} {m : MethodId} {args : Array Value} {below : List Frame} {meth : Method} {c : Code} {H : Heap} {locs : List Loc} {Q : State → Prop}
variable {cc : ByteArray} {nL pc : Nat} {ls : Array Slot} {rest : List Value} {D : va_G} {A : Nat → Prop} {cw : Cond} {ad : Nat → Nat} {cy : Nat → ClassId} {ee : EE} {st : StT} {own : String}
theorem grX1_48_4 (F : CallFix p m c cc nL s args (cw :: Gw) RX1) (K : va_K D vwCl (tyL cy) s) (Z : ZG D (wC ad cy st) A s H locs) (hd : decode cc pc = .ok (.getfield 48, 3)) (kk : W p l e R s m args below meth c H locs 0 0 Q (F0 m (pc + 3) ls (.int (st.1 7) :: rest))) : W p l e R s m args below meth c H locs 0 0 Q (F0 m pc ls (.ref (ad 4) :: rest)) :=
  va_get (D := D) (ci := 1) (C := RX1) (T := TX1) (N := 9) F.1 F.2.1 F.2.2.2.2 (fun w h => List.mem_cons_of_mem _ (inG_X1 w h)) F.2.2.2.1 K Z.1 4 rfl rfl 8 (by decide) (F.2.2.2.2 _ (List.mem_cons_of_mem _ wd10)) (fun _ h => h) rfl hd kk
end
set_option maxRecDepth 100000 in
set_option maxHeartbeats 4000000 in
theorem c_X1_variables_F0 {l : Launch} {D : va_G} {ad : Nat → Nat} {cy : Nat → ClassId} {ee : EE} {n : Nat} {st : StT} {res : (Int32 × StT)} (hf : f_X1_variables_F0 n st = some res) : CT l yX1_variables cX1_variables 1 (some .int) 0 0 D cy ee (wC ad cy st) (wC ad cy res.2) [.ref (ad 4)] (some (.int res.1)) := by
  refine CT.of (by decide +kernel) (Nat.le_of_ble_eq_true rfl) ?_
  intro p e s m args below meth c A F hr hk K E hA Z ls hl
  have hl : lv_has ls 1 [(0, .ref (ad 4))] := hl
  have hx := F.1
  have hb := F.2.1
  unfold f_X1_variables_F0 at hf
  refine lv_aload_n hx hb dX1_variables_0 rfl (lv_at hl 0 rfl) ?_
  refine grX1_48_4 F K Z dX1_variables_1 ?_
  have hf := Option.some.inj hf
  subst hf
  exact ret_i F hr hk Z dX1_variables_4
def f_X1_has_F0 (n : Nat) (st : StT) (x1 : Int32) : Option (Int32 × StT) := if x1 < 0 then (some ((0 : Int32), st)) else (if (st.1 6) ≤ x1 then (some ((0 : Int32), st)) else (if (2000 : Int32) ≤ x1 then (some ((0 : Int32), st)) else (some ((1 : Int32), st))))
theorem wd11 : Cond.fieldLink RX1 25 "WorldProver$Formulas" "room" "I" ∈ Gw := gT1 (List.mem_of_getElem? (i := 87) rfl) rfl
section
variable {p : Program} {l : Launch} {e : Env} {R : Room} {s : State} {m : MethodId} {args : Array Value} {below : List Frame} {meth : Method} {c : Code} {H : Heap} {locs : List Loc} {Q : State → Prop}
variable {cc : ByteArray} {nL pc : Nat} {ls : Array Slot} {rest : List Value} {D : va_G} {A : Nat → Prop} {cw : Cond} {ad : Nat → Nat} {cy : Nat → ClassId} {ee : EE} {st : StT} {own : String}
theorem grX1_25_4 (F : CallFix p m c cc nL s args (cw :: Gw) RX1) (K : va_K D vwCl (tyL cy) s) (Z : ZG D (wC ad cy st) A s H locs) (hd : decode cc pc = .ok (.getfield 25, 3)) (kk : W p l e R s m args below meth c H locs 0 0 Q (F0 m (pc + 3) ls (.int 2000 :: rest))) : W p l e R s m args below meth c H locs 0 0 Q (F0 m pc ls (.ref (ad 4) :: rest)) :=
  va_get (D := D) (ci := 1) (C := RX1) (T := TX1) (N := 9) F.1 F.2.1 F.2.2.2.2 (fun w h => List.mem_cons_of_mem _ (inG_X1 w h)) F.2.2.2.1 K Z.1 4 rfl rfl 0 (by decide) (F.2.2.2.2 _ (List.mem_cons_of_mem _ wd11)) (fun _ h => h) rfl hd kk
end
set_option maxRecDepth 100000 in
set_option maxHeartbeats 4000000 in
theorem c_X1_has_F0 {l : Launch} {D : va_G} {ad : Nat → Nat} {cy : Nat → ClassId} {ee : EE} {n : Nat} {st : StT} {x1 : Int32} {res : (Int32 × StT)} (hf : f_X1_has_F0 n st x1 = some res) : CT l yX1_has cX1_has 2 (some .boolean) 0 0 D cy ee (wC ad cy st) (wC ad cy res.2) [.ref (ad 4), .int x1] (some (.int res.1)) := by
  refine CT.of (by decide +kernel) (Nat.le_of_ble_eq_true rfl) ?_
  intro p e s m args below meth c A F hr hk K E hA Z ls hl
  have hl : lv_has ls 2 [(0, .ref (ad 4)), (1, .int x1)] := hl
  have hx := F.1
  have hb := F.2.1
  unfold f_X1_has_F0 at hf
  refine lv_iload_n hx hb dX1_has_0 rfl (lv_at hl 1 rfl) ?_
  refine lv_if_lt (tgt := 24) hx hb dX1_has_1 (by decide) (fun c1 => ?_) (fun c1 => ?_)
  · have hf := if_t c1 hf
    refine lv_iconst (v := 0) hx hb dX1_has_24 (by decide) ?_
    have hf := Option.some.inj hf
    subst hf
    exact ret_z F hr hk Z rfl dX1_has_25
  have hf := if_f c1 hf
  refine lv_iload_n hx hb dX1_has_4 rfl (lv_at hl 1 rfl) ?_
  refine lv_aload_n hx hb dX1_has_5 rfl (lv_at hl 0 rfl) ?_
  refine grX1_45_4 F K Z dX1_has_6 ?_
  refine lv_icmp_ge (tgt := 24) hx hb dX1_has_9 (by decide) (fun c9 => ?_) (fun c9 => ?_)
  · have hf := if_t c9 hf
    refine lv_iconst (v := 0) hx hb dX1_has_24 (by decide) ?_
    have hf := Option.some.inj hf
    subst hf
    exact ret_z F hr hk Z rfl dX1_has_25
  have hf := if_f c9 hf
  refine lv_iload_n hx hb dX1_has_12 rfl (lv_at hl 1 rfl) ?_
  refine lv_aload_n hx hb dX1_has_13 rfl (lv_at hl 0 rfl) ?_
  refine grX1_25_4 F K Z dX1_has_14 ?_
  refine lv_icmp_ge (tgt := 24) hx hb dX1_has_17 (by decide) (fun c17 => ?_) (fun c17 => ?_)
  · have hf := if_t c17 hf
    refine lv_iconst (v := 0) hx hb dX1_has_24 (by decide) ?_
    have hf := Option.some.inj hf
    subst hf
    exact ret_z F hr hk Z rfl dX1_has_25
  have hf := if_f c17 hf
  refine lv_iconst (v := 1) hx hb dX1_has_20 (by decide) ?_
  refine lv_goto (tgt := 25) hx hb dX1_has_21 (by decide) ?_
  have hf := Option.some.inj hf
  subst hf
  exact ret_z F hr hk Z rfl dX1_has_25
def f_X1_hasVariable_F0 (n : Nat) (st : StT) (x1 : Int32) : Option (Int32 × StT) := if x1 < 0 then (some ((0 : Int32), st)) else (if (st.1 7) ≤ x1 then (some ((0 : Int32), st)) else (if (24 : Int32) ≤ x1 then (some ((0 : Int32), st)) else (some ((1 : Int32), st))))
set_option maxRecDepth 100000 in
set_option maxHeartbeats 4000000 in
theorem c_X1_hasVariable_F0 {l : Launch} {D : va_G} {ad : Nat → Nat} {cy : Nat → ClassId} {ee : EE} {n : Nat} {st : StT} {x1 : Int32} {res : (Int32 × StT)} (hf : f_X1_hasVariable_F0 n st x1 = some res) : CT l yX1_hasVariable cX1_hasVariable 2 (some .boolean) 0 0 D cy ee (wC ad cy st) (wC ad cy res.2) [.ref (ad 4), .int x1] (some (.int res.1)) := by
  refine CT.of (by decide +kernel) (Nat.le_of_ble_eq_true rfl) ?_
  intro p e s m args below meth c A F hr hk K E hA Z ls hl
  have hl : lv_has ls 2 [(0, .ref (ad 4)), (1, .int x1)] := hl
  have hx := F.1
  have hb := F.2.1
  unfold f_X1_hasVariable_F0 at hf
  refine lv_iload_n hx hb dX1_hasVariable_0 rfl (lv_at hl 1 rfl) ?_
  refine lv_if_lt (tgt := 22) hx hb dX1_hasVariable_1 (by decide) (fun c1 => ?_) (fun c1 => ?_)
  · have hf := if_t c1 hf
    refine lv_iconst (v := 0) hx hb dX1_hasVariable_22 (by decide) ?_
    have hf := Option.some.inj hf
    subst hf
    exact ret_z F hr hk Z rfl dX1_hasVariable_23
  have hf := if_f c1 hf
  refine lv_iload_n hx hb dX1_hasVariable_4 rfl (lv_at hl 1 rfl) ?_
  refine lv_aload_n hx hb dX1_hasVariable_5 rfl (lv_at hl 0 rfl) ?_
  refine grX1_48_4 F K Z dX1_hasVariable_6 ?_
  refine lv_icmp_ge (tgt := 22) hx hb dX1_hasVariable_9 (by decide) (fun c9 => ?_) (fun c9 => ?_)
  · have hf := if_t c9 hf
    refine lv_iconst (v := 0) hx hb dX1_hasVariable_22 (by decide) ?_
    have hf := Option.some.inj hf
    subst hf
    exact ret_z F hr hk Z rfl dX1_hasVariable_23
  have hf := if_f c9 hf
  refine lv_iload_n hx hb dX1_hasVariable_12 rfl (lv_at hl 1 rfl) ?_
  refine lv_bipush (v := 24) hx hb dX1_hasVariable_13 (by decide) ?_
  refine lv_icmp_ge (tgt := 22) hx hb dX1_hasVariable_15 (by decide) (fun c15 => ?_) (fun c15 => ?_)
  · have hf := if_t c15 hf
    refine lv_iconst (v := 0) hx hb dX1_hasVariable_22 (by decide) ?_
    have hf := Option.some.inj hf
    subst hf
    exact ret_z F hr hk Z rfl dX1_hasVariable_23
  have hf := if_f c15 hf
  refine lv_iconst (v := 1) hx hb dX1_hasVariable_18 (by decide) ?_
  refine lv_goto (tgt := 23) hx hb dX1_hasVariable_19 (by decide) ?_
  have hf := Option.some.inj hf
  subst hf
  exact ret_z F hr hk Z rfl dX1_hasVariable_23
def f_X1_kindOf_F0 (n : Nat) (st : StT) (x1 : Int32) : Option (Int32 × StT) := (f_X1_has_F0 n st x1).bind fun q2 => (if q2.1 = 0 then (some ((-1 : Int32), q2.2)) else (if inB x1 2000 = true then (some ((q2.2.2.1 2 (x1).toNatClampNeg), q2.2)) else none))
theorem wd12 : Cond.fieldLink RX1 29 "WorldProver$Formulas" "kinds" "[I" ∈ Gw := gT1 (List.mem_of_getElem? (i := 88) rfl) rfl
theorem wd13 : Cond.methodLink RX1 51 yX1_has ∈ Gw := gT3 (List.mem_of_getElem? (i := 181) rfl) rfl
theorem wd14 : Cond.code yX1_has prog_3_method_4_code 2 (some .boolean) ∈ Gw := gT3 (List.mem_of_getElem? (i := 176) rfl) rfl
theorem wd15 : Cond.instanceMethod yX1_has ∈ Gw := gT3 (List.mem_of_getElem? (i := 174) rfl) rfl
theorem wd16 : Cond.selects RX1 yX1_has yX1_has ∈ Gw := gT3 (List.mem_of_getElem? (i := 175) rfl) rfl
theorem wd17 : Cond.initialized RX1 ∈ Gw := gT1 (List.mem_of_getElem? (i := 3) rfl) rfl
section
variable {p : Program} {l : Launch} {e : Env} {R : Room} {s : State} {m : MethodId} {args : Array Value} {below : List Frame} {meth : Method} {c : Code} {H : Heap} {locs : List Loc} {Q : State → Prop}
variable {cc : ByteArray} {nL pc : Nat} {ls : Array Slot} {rest : List Value} {D : va_G} {A : Nat → Prop} {cw : Cond} {ad : Nat → Nat} {cy : Nat → ClassId} {ee : EE} {st : StT} {own : String}
theorem grX1_29_4 (F : CallFix p m c cc nL s args (cw :: Gw) RX1) (K : va_K D vwCl (tyL cy) s) (Z : ZG D (wC ad cy st) A s H locs) (hd : decode cc pc = .ok (.getfield 29, 3)) (kk : W p l e R s m args below meth c H locs 0 0 Q (F0 m (pc + 3) ls (.ref (ad 5) :: rest))) : W p l e R s m args below meth c H locs 0 0 Q (F0 m pc ls (.ref (ad 4) :: rest)) :=
  va_get (D := D) (ci := 1) (C := RX1) (T := TX1) (N := 9) F.1 F.2.1 F.2.2.2.2 (fun w h => List.mem_cons_of_mem _ (inG_X1 w h)) F.2.2.2.1 K Z.1 4 rfl rfl 1 (by decide) (F.2.2.2.2 _ (List.mem_cons_of_mem _ wd12)) (fun _ h => h) rfl hd kk
theorem al5 {i : Int32} (F : CallFix p m c cc nL s args (cw :: Gw) own) (K : va_K D vwCl (tyL cy) s) (Z : ZG D (wC ad cy st) A s H locs) (hi : inB i 2000 = true) (hd : decode cc pc = .ok (.iaload, 1)) (kk : W p l e R s m args below meth c H locs 0 0 Q (F0 m (pc + 1) ls (.int (st.2.1 2 i.toNatClampNeg) :: rest))) : W p l e R s m args below meth c H locs 0 0 Q (F0 m pc ls (.int i :: .ref (ad 5) :: rest)) :=
  va_iald F.1 F.2.1 K Z.1 5 1 rfl rfl (inB_vp hi) hd kk
theorem krX1_51_X1_has_F0 {n : Nat} {a0 : Int32} {q : (Int32 × StT)} (F : CallFix p m c cc nL s args (cw :: Gw) RX1) (K : va_K D vwCl (tyL cy) s) (E : EV ee A s s.heap) (hA : ∀ q, s.heap.size ≤ q → A q) (Z : ZG D (wC ad cy st) A s H locs) (hf : f_X1_has_F0 n st a0 = some q) (hR : 1 ≤ R.frames ∧ 21 ≤ R.locals) (hl : ls.size = nL) (hst : (rest.map fun v => v.category).sum ≤ 8) (hd : decode cc pc = .ok (.invokevirtual 51, 3)) (kk : ∀ (H1 : Heap) (locs1 : List Loc), ZG D (wC ad cy q.2) A s H1 locs1 → W p l e R s m args below meth c H1 locs1 0 0 Q (F0 m (pc + 3) ls (.int q.1 :: rest))) : W p l e R s m args below meth c H locs 0 0 Q (F0 m pc ls (.int a0 :: .ref (ad 4) :: rest)) :=
  call_V (q := (RX1, TX1, 9)) (n := 1) (As := [.int a0]) (rv := some (.int q.1)) 4 1 F K E hA Z (c_X1_has_F0 (l := l) (D := D) (ad := ad) (cy := cy) (ee := ee) hf) ⟨wd14, wd13, wd15, wd16, wd17⟩ (by decide +kernel) rfl rfl hR rfl hl hst hd kk
end
set_option maxRecDepth 100000 in
set_option maxHeartbeats 4000000 in
theorem c_X1_kindOf_F0 {l : Launch} {D : va_G} {ad : Nat → Nat} {cy : Nat → ClassId} {ee : EE} {n : Nat} {st : StT} {x1 : Int32} {res : (Int32 × StT)} (hf : f_X1_kindOf_F0 n st x1 = some res) : CT l yX1_kindOf cX1_kindOf 2 (some .int) 1 21 D cy ee (wC ad cy st) (wC ad cy res.2) [.ref (ad 4), .int x1] (some (.int res.1)) := by
  refine CT.of (by decide +kernel) (Nat.le_of_ble_eq_true rfl) ?_
  intro p e s m args below meth c A F hr hk K E hA Z ls hl
  have hl : lv_has ls 2 [(0, .ref (ad 4)), (1, .int x1)] := hl
  have hx := F.1
  have hb := F.2.1
  unfold f_X1_kindOf_F0 at hf
  refine lv_aload_n hx hb dX1_kindOf_0 rfl (lv_at hl 0 rfl) ?_
  refine lv_iload_n hx hb dX1_kindOf_1 rfl (lv_at hl 1 rfl) ?_
  obtain ⟨q2, h2, hf⟩ := bind_some hf
  refine krX1_51_X1_has_F0 F K E hA Z h2 ⟨Nat.le_of_ble_eq_true rfl, Nat.le_of_ble_eq_true rfl⟩ hl.1 (Nat.le_of_ble_eq_true rfl) dX1_kindOf_2 (fun H locs Z => ?_)
  refine lv_if_eq (tgt := 17) hx hb dX1_kindOf_5 (by decide) (fun c5 => ?_) (fun c5 => ?_)
  · have hf := if_t c5 hf
    refine lv_iconst (v := -1) hx hb dX1_kindOf_17 (by decide) ?_
    have hf := Option.some.inj hf
    subst hf
    exact ret_i F hr hk Z dX1_kindOf_18
  have hf := if_f c5 hf
  refine lv_aload_n hx hb dX1_kindOf_8 rfl (lv_at hl 0 rfl) ?_
  refine grX1_29_4 F K Z dX1_kindOf_9 ?_
  refine lv_iload_n hx hb dX1_kindOf_12 rfl (lv_at hl 1 rfl) ?_
  obtain ⟨i13, hf⟩ := if_some hf
  refine al5 F K Z i13 dX1_kindOf_13 ?_
  refine lv_goto (tgt := 18) hx hb dX1_kindOf_14 (by decide) ?_
  have hf := Option.some.inj hf
  subst hf
  exact ret_i F hr hk Z dX1_kindOf_18
def f_X1_firstOf_F0 (n : Nat) (st : StT) (x1 : Int32) : Option (Int32 × StT) := (f_X1_has_F0 n st x1).bind fun q2 => (if q2.1 = 0 then (some ((-1 : Int32), q2.2)) else (if inB x1 2000 = true then (some ((q2.2.2.1 3 (x1).toNatClampNeg), q2.2)) else none))
theorem wd18 : Cond.fieldLink RX1 32 "WorldProver$Formulas" "firsts" "[I" ∈ Gw := gT1 (List.mem_of_getElem? (i := 89) rfl) rfl
section
variable {p : Program} {l : Launch} {e : Env} {R : Room} {s : State} {m : MethodId} {args : Array Value} {below : List Frame} {meth : Method} {c : Code} {H : Heap} {locs : List Loc} {Q : State → Prop}
variable {cc : ByteArray} {nL pc : Nat} {ls : Array Slot} {rest : List Value} {D : va_G} {A : Nat → Prop} {cw : Cond} {ad : Nat → Nat} {cy : Nat → ClassId} {ee : EE} {st : StT} {own : String}
theorem grX1_32_4 (F : CallFix p m c cc nL s args (cw :: Gw) RX1) (K : va_K D vwCl (tyL cy) s) (Z : ZG D (wC ad cy st) A s H locs) (hd : decode cc pc = .ok (.getfield 32, 3)) (kk : W p l e R s m args below meth c H locs 0 0 Q (F0 m (pc + 3) ls (.ref (ad 6) :: rest))) : W p l e R s m args below meth c H locs 0 0 Q (F0 m pc ls (.ref (ad 4) :: rest)) :=
  va_get (D := D) (ci := 1) (C := RX1) (T := TX1) (N := 9) F.1 F.2.1 F.2.2.2.2 (fun w h => List.mem_cons_of_mem _ (inG_X1 w h)) F.2.2.2.1 K Z.1 4 rfl rfl 2 (by decide) (F.2.2.2.2 _ (List.mem_cons_of_mem _ wd18)) (fun _ h => h) rfl hd kk
theorem al6 {i : Int32} (F : CallFix p m c cc nL s args (cw :: Gw) own) (K : va_K D vwCl (tyL cy) s) (Z : ZG D (wC ad cy st) A s H locs) (hi : inB i 2000 = true) (hd : decode cc pc = .ok (.iaload, 1)) (kk : W p l e R s m args below meth c H locs 0 0 Q (F0 m (pc + 1) ls (.int (st.2.1 3 i.toNatClampNeg) :: rest))) : W p l e R s m args below meth c H locs 0 0 Q (F0 m pc ls (.int i :: .ref (ad 6) :: rest)) :=
  va_iald F.1 F.2.1 K Z.1 6 1 rfl rfl (inB_vp hi) hd kk
end
set_option maxRecDepth 100000 in
set_option maxHeartbeats 4000000 in
theorem c_X1_firstOf_F0 {l : Launch} {D : va_G} {ad : Nat → Nat} {cy : Nat → ClassId} {ee : EE} {n : Nat} {st : StT} {x1 : Int32} {res : (Int32 × StT)} (hf : f_X1_firstOf_F0 n st x1 = some res) : CT l yX1_firstOf cX1_firstOf 2 (some .int) 1 21 D cy ee (wC ad cy st) (wC ad cy res.2) [.ref (ad 4), .int x1] (some (.int res.1)) := by
  refine CT.of (by decide +kernel) (Nat.le_of_ble_eq_true rfl) ?_
  intro p e s m args below meth c A F hr hk K E hA Z ls hl
  have hl : lv_has ls 2 [(0, .ref (ad 4)), (1, .int x1)] := hl
  have hx := F.1
  have hb := F.2.1
  unfold f_X1_firstOf_F0 at hf
  refine lv_aload_n hx hb dX1_firstOf_0 rfl (lv_at hl 0 rfl) ?_
  refine lv_iload_n hx hb dX1_firstOf_1 rfl (lv_at hl 1 rfl) ?_
  obtain ⟨q2, h2, hf⟩ := bind_some hf
  refine krX1_51_X1_has_F0 F K E hA Z h2 ⟨Nat.le_of_ble_eq_true rfl, Nat.le_of_ble_eq_true rfl⟩ hl.1 (Nat.le_of_ble_eq_true rfl) dX1_firstOf_2 (fun H locs Z => ?_)
  refine lv_if_eq (tgt := 17) hx hb dX1_firstOf_5 (by decide) (fun c5 => ?_) (fun c5 => ?_)
  · have hf := if_t c5 hf
    refine lv_iconst (v := -1) hx hb dX1_firstOf_17 (by decide) ?_
    have hf := Option.some.inj hf
    subst hf
    exact ret_i F hr hk Z dX1_firstOf_18
  have hf := if_f c5 hf
  refine lv_aload_n hx hb dX1_firstOf_8 rfl (lv_at hl 0 rfl) ?_
  refine grX1_32_4 F K Z dX1_firstOf_9 ?_
  refine lv_iload_n hx hb dX1_firstOf_12 rfl (lv_at hl 1 rfl) ?_
  obtain ⟨i13, hf⟩ := if_some hf
  refine al6 F K Z i13 dX1_firstOf_13 ?_
  refine lv_goto (tgt := 18) hx hb dX1_firstOf_14 (by decide) ?_
  have hf := Option.some.inj hf
  subst hf
  exact ret_i F hr hk Z dX1_firstOf_18
def f_X1_secondOf_F0 (n : Nat) (st : StT) (x1 : Int32) : Option (Int32 × StT) := (f_X1_has_F0 n st x1).bind fun q2 => (if q2.1 = 0 then (some ((-1 : Int32), q2.2)) else (if inB x1 2000 = true then (some ((q2.2.2.1 4 (x1).toNatClampNeg), q2.2)) else none))
theorem wd19 : Cond.fieldLink RX1 35 "WorldProver$Formulas" "seconds" "[I" ∈ Gw := gT1 (List.mem_of_getElem? (i := 90) rfl) rfl
section
variable {p : Program} {l : Launch} {e : Env} {R : Room} {s : State} {m : MethodId} {args : Array Value} {below : List Frame} {meth : Method} {c : Code} {H : Heap} {locs : List Loc} {Q : State → Prop}
variable {cc : ByteArray} {nL pc : Nat} {ls : Array Slot} {rest : List Value} {D : va_G} {A : Nat → Prop} {cw : Cond} {ad : Nat → Nat} {cy : Nat → ClassId} {ee : EE} {st : StT} {own : String}
theorem grX1_35_4 (F : CallFix p m c cc nL s args (cw :: Gw) RX1) (K : va_K D vwCl (tyL cy) s) (Z : ZG D (wC ad cy st) A s H locs) (hd : decode cc pc = .ok (.getfield 35, 3)) (kk : W p l e R s m args below meth c H locs 0 0 Q (F0 m (pc + 3) ls (.ref (ad 7) :: rest))) : W p l e R s m args below meth c H locs 0 0 Q (F0 m pc ls (.ref (ad 4) :: rest)) :=
  va_get (D := D) (ci := 1) (C := RX1) (T := TX1) (N := 9) F.1 F.2.1 F.2.2.2.2 (fun w h => List.mem_cons_of_mem _ (inG_X1 w h)) F.2.2.2.1 K Z.1 4 rfl rfl 3 (by decide) (F.2.2.2.2 _ (List.mem_cons_of_mem _ wd19)) (fun _ h => h) rfl hd kk
theorem al7 {i : Int32} (F : CallFix p m c cc nL s args (cw :: Gw) own) (K : va_K D vwCl (tyL cy) s) (Z : ZG D (wC ad cy st) A s H locs) (hi : inB i 2000 = true) (hd : decode cc pc = .ok (.iaload, 1)) (kk : W p l e R s m args below meth c H locs 0 0 Q (F0 m (pc + 1) ls (.int (st.2.1 4 i.toNatClampNeg) :: rest))) : W p l e R s m args below meth c H locs 0 0 Q (F0 m pc ls (.int i :: .ref (ad 7) :: rest)) :=
  va_iald F.1 F.2.1 K Z.1 7 1 rfl rfl (inB_vp hi) hd kk
end
set_option maxRecDepth 100000 in
set_option maxHeartbeats 4000000 in
theorem c_X1_secondOf_F0 {l : Launch} {D : va_G} {ad : Nat → Nat} {cy : Nat → ClassId} {ee : EE} {n : Nat} {st : StT} {x1 : Int32} {res : (Int32 × StT)} (hf : f_X1_secondOf_F0 n st x1 = some res) : CT l yX1_secondOf cX1_secondOf 2 (some .int) 1 21 D cy ee (wC ad cy st) (wC ad cy res.2) [.ref (ad 4), .int x1] (some (.int res.1)) := by
  refine CT.of (by decide +kernel) (Nat.le_of_ble_eq_true rfl) ?_
  intro p e s m args below meth c A F hr hk K E hA Z ls hl
  have hl : lv_has ls 2 [(0, .ref (ad 4)), (1, .int x1)] := hl
  have hx := F.1
  have hb := F.2.1
  unfold f_X1_secondOf_F0 at hf
  refine lv_aload_n hx hb dX1_secondOf_0 rfl (lv_at hl 0 rfl) ?_
  refine lv_iload_n hx hb dX1_secondOf_1 rfl (lv_at hl 1 rfl) ?_
  obtain ⟨q2, h2, hf⟩ := bind_some hf
  refine krX1_51_X1_has_F0 F K E hA Z h2 ⟨Nat.le_of_ble_eq_true rfl, Nat.le_of_ble_eq_true rfl⟩ hl.1 (Nat.le_of_ble_eq_true rfl) dX1_secondOf_2 (fun H locs Z => ?_)
  refine lv_if_eq (tgt := 17) hx hb dX1_secondOf_5 (by decide) (fun c5 => ?_) (fun c5 => ?_)
  · have hf := if_t c5 hf
    refine lv_iconst (v := -1) hx hb dX1_secondOf_17 (by decide) ?_
    have hf := Option.some.inj hf
    subst hf
    exact ret_i F hr hk Z dX1_secondOf_18
  have hf := if_f c5 hf
  refine lv_aload_n hx hb dX1_secondOf_8 rfl (lv_at hl 0 rfl) ?_
  refine grX1_35_4 F K Z dX1_secondOf_9 ?_
  refine lv_iload_n hx hb dX1_secondOf_12 rfl (lv_at hl 1 rfl) ?_
  obtain ⟨i13, hf⟩ := if_some hf
  refine al7 F K Z i13 dX1_secondOf_13 ?_
  refine lv_goto (tgt := 18) hx hb dX1_secondOf_14 (by decide) ?_
  have hf := Option.some.inj hf
  subst hf
  exact ret_i F hr hk Z dX1_secondOf_18
def f_X1_chainOf (n : Nat) (st : StT) (x0 : Int32) (x1 : Int32) (x2 : Int32) : Option (Int32 × StT) := some (((((x0 * (331 : Int32)) + (x1 * (613 : Int32))) + (x2 * (37 : Int32))) &&& (1023 : Int32)), st)
set_option maxRecDepth 100000 in
set_option maxHeartbeats 4000000 in
theorem c_X1_chainOf {l : Launch} {D : va_G} {ad : Nat → Nat} {cy : Nat → ClassId} {ee : EE} {n : Nat} {st : StT} {x0 : Int32} {x1 : Int32} {x2 : Int32} {res : (Int32 × StT)} (hf : f_X1_chainOf n st x0 x1 x2 = some res) : CT l yX1_chainOf cX1_chainOf 3 (some .int) 0 0 D cy ee (wC ad cy st) (wC ad cy res.2) [.int x0, .int x1, .int x2] (some (.int res.1)) := by
  refine CT.of (by decide +kernel) (Nat.le_of_ble_eq_true rfl) ?_
  intro p e s m args below meth c A F hr hk K E hA Z ls hl
  have hl : lv_has ls 3 [(0, .int x0), (1, .int x1), (2, .int x2)] := hl
  have hx := F.1
  have hb := F.2.1
  unfold f_X1_chainOf at hf
  refine lv_iload_n hx hb dX1_chainOf_0 rfl (lv_at hl 0 rfl) ?_
  refine lv_sipush (v := 331) hx hb dX1_chainOf_1 (by decide) ?_
  refine lv_imul hx hb dX1_chainOf_4 ?_
  refine lv_iload_n hx hb dX1_chainOf_5 rfl (lv_at hl 1 rfl) ?_
  refine lv_sipush (v := 613) hx hb dX1_chainOf_6 (by decide) ?_
  refine lv_imul hx hb dX1_chainOf_9 ?_
  refine lv_iadd hx hb dX1_chainOf_10 ?_
  refine lv_iload_n hx hb dX1_chainOf_11 rfl (lv_at hl 2 rfl) ?_
  refine lv_bipush (v := 37) hx hb dX1_chainOf_12 (by decide) ?_
  refine lv_imul hx hb dX1_chainOf_14 ?_
  refine lv_iadd hx hb dX1_chainOf_15 ?_
  refine lv_sipush (v := 1023) hx hb dX1_chainOf_16 (by decide) ?_
  refine lv_iand hx hb dX1_chainOf_19 ?_
  have hf := Option.some.inj hf
  subst hf
  exact ret_i F hr hk Z dX1_chainOf_20
def f_X1_findIn_F0_77 (n : Nat) (k17 : StT → Int32 → Int32 → Int32 → Int32 → Int32 → Option (Int32 × StT)) (st : StT) (x2 : Int32) (x3 : Int32) (x4 : Int32) (x5 : Int32) (x6 : Int32) : Option (Int32 × StT) := if inB x5 2000 = true then (k17 st x2 x3 x4 ((st.2.1 6 (x5).toNatClampNeg) - (1 : Int32)) (x6 + (1 : Int32))) else none
def f_X1_findIn_F0_17 (n : Nat) : Nat → StT → Int32 → Int32 → Int32 → Int32 → Int32 → Option (Int32 × StT)
  | 0, _, _, _, _, _, _ => none
  | k + 1, st, x2, x3, x4, x5, x6 => if (st.1 6) ≤ x6 then (some ((-1 : Int32), st)) else (if x5 < 0 then (some ((-1 : Int32), st)) else (if (2000 : Int32) ≤ x5 then (some ((-1 : Int32), st)) else (if inB x5 2000 = true then (if (st.2.1 2 (x5).toNatClampNeg) = x2 then (if inB x5 2000 = true then (if (st.2.1 3 (x5).toNatClampNeg) = x3 then (if inB x5 2000 = true then (if (st.2.1 4 (x5).toNatClampNeg) = x4 then (some (x5, st)) else (f_X1_findIn_F0_77 n (f_X1_findIn_F0_17 n k) st x2 x3 x4 x5 x6)) else none) else (f_X1_findIn_F0_77 n (f_X1_findIn_F0_17 n k) st x2 x3 x4 x5 x6)) else none) else (f_X1_findIn_F0_77 n (f_X1_findIn_F0_17 n k) st x2 x3 x4 x5 x6)) else none)))
def f_X1_findIn_F0 (n : Nat) (st : StT) (x1 : Int32) (x2 : Int32) (x3 : Int32) (x4 : Int32) : Option (Int32 × StT) := if inB (x1 &&& (1023 : Int32)) 1024 = true then (f_X1_findIn_F0_17 n n st x2 x3 x4 ((st.2.1 5 ((x1 &&& (1023 : Int32))).toNatClampNeg) - (1 : Int32)) (0 : Int32)) else none
theorem wd20 : Cond.fieldLink RX1 11 "WorldProver$Formulas" "heads" "[I" ∈ Gw := gT1 (List.mem_of_getElem? (i := 91) rfl) rfl
theorem wd21 : Cond.fieldLink RX1 38 "WorldProver$Formulas" "nexts" "[I" ∈ Gw := gT1 (List.mem_of_getElem? (i := 92) rfl) rfl
section
variable {p : Program} {l : Launch} {e : Env} {R : Room} {s : State} {m : MethodId} {args : Array Value} {below : List Frame} {meth : Method} {c : Code} {H : Heap} {locs : List Loc} {Q : State → Prop}
variable {cc : ByteArray} {nL pc : Nat} {ls : Array Slot} {rest : List Value} {D : va_G} {A : Nat → Prop} {cw : Cond} {ad : Nat → Nat} {cy : Nat → ClassId} {ee : EE} {st : StT} {own : String}
theorem grX1_11_4 (F : CallFix p m c cc nL s args (cw :: Gw) RX1) (K : va_K D vwCl (tyL cy) s) (Z : ZG D (wC ad cy st) A s H locs) (hd : decode cc pc = .ok (.getfield 11, 3)) (kk : W p l e R s m args below meth c H locs 0 0 Q (F0 m (pc + 3) ls (.ref (ad 8) :: rest))) : W p l e R s m args below meth c H locs 0 0 Q (F0 m pc ls (.ref (ad 4) :: rest)) :=
  va_get (D := D) (ci := 1) (C := RX1) (T := TX1) (N := 9) F.1 F.2.1 F.2.2.2.2 (fun w h => List.mem_cons_of_mem _ (inG_X1 w h)) F.2.2.2.1 K Z.1 4 rfl rfl 4 (by decide) (F.2.2.2.2 _ (List.mem_cons_of_mem _ wd20)) (fun _ h => h) rfl hd kk
theorem al8 {i : Int32} (F : CallFix p m c cc nL s args (cw :: Gw) own) (K : va_K D vwCl (tyL cy) s) (Z : ZG D (wC ad cy st) A s H locs) (hi : inB i 1024 = true) (hd : decode cc pc = .ok (.iaload, 1)) (kk : W p l e R s m args below meth c H locs 0 0 Q (F0 m (pc + 1) ls (.int (st.2.1 5 i.toNatClampNeg) :: rest))) : W p l e R s m args below meth c H locs 0 0 Q (F0 m pc ls (.int i :: .ref (ad 8) :: rest)) :=
  va_iald F.1 F.2.1 K Z.1 8 1 rfl rfl (inB_vp hi) hd kk
theorem grX1_38_4 (F : CallFix p m c cc nL s args (cw :: Gw) RX1) (K : va_K D vwCl (tyL cy) s) (Z : ZG D (wC ad cy st) A s H locs) (hd : decode cc pc = .ok (.getfield 38, 3)) (kk : W p l e R s m args below meth c H locs 0 0 Q (F0 m (pc + 3) ls (.ref (ad 9) :: rest))) : W p l e R s m args below meth c H locs 0 0 Q (F0 m pc ls (.ref (ad 4) :: rest)) :=
  va_get (D := D) (ci := 1) (C := RX1) (T := TX1) (N := 9) F.1 F.2.1 F.2.2.2.2 (fun w h => List.mem_cons_of_mem _ (inG_X1 w h)) F.2.2.2.1 K Z.1 4 rfl rfl 5 (by decide) (F.2.2.2.2 _ (List.mem_cons_of_mem _ wd21)) (fun _ h => h) rfl hd kk
theorem al9 {i : Int32} (F : CallFix p m c cc nL s args (cw :: Gw) own) (K : va_K D vwCl (tyL cy) s) (Z : ZG D (wC ad cy st) A s H locs) (hi : inB i 2000 = true) (hd : decode cc pc = .ok (.iaload, 1)) (kk : W p l e R s m args below meth c H locs 0 0 Q (F0 m (pc + 1) ls (.int (st.2.1 6 i.toNatClampNeg) :: rest))) : W p l e R s m args below meth c H locs 0 0 Q (F0 m pc ls (.int i :: .ref (ad 9) :: rest)) :=
  va_iald F.1 F.2.1 K Z.1 9 1 rfl rfl (inB_vp hi) hd kk
end
set_option maxRecDepth 100000 in
set_option maxHeartbeats 4000000 in
theorem b_X1_findIn_F0_77 {p : Program} {l : Launch} {e : Env} {s : State} {m : MethodId} {args : Array Value} {below : List Frame} {meth : Method} {c : Code} {D : va_G} {A : Nat → Prop} {ad : Nat → Nat} {cy : Nat → ClassId} {ee : EE} {n : Nat} {res : (Int32 × StT)} (F : CallFix p m c cX1_findIn 7 s args (Cond.code yX1_findIn cX1_findIn 7 (some .int) :: Gw) yX1_findIn.cls) (hr : meth.sig.returnType = (some .int)) (hk : meth.locks = false) (K : va_K D vwCl (tyL cy) s) (E : EV ee A s s.heap) (hA : ∀ q, s.heap.size ≤ q → A q) {k17 : StT → Int32 → Int32 → Int32 → Int32 → Int32 → Option (Int32 × StT)} (hk17 : ∀ (st : StT) (x2 : Int32) (x3 : Int32) (x4 : Int32) (x5 : Int32) (x6 : Int32), k17 st x2 x3 x4 x5 x6 = some res → ∀ (H : Heap) (locs : List Loc) (ls : Array Slot), ZG D (wC ad cy st) A s H locs → lv_has ls 7 [(0, .ref (ad 4)), (2, .int x2), (3, .int x3), (4, .int x4), (5, .int x5), (6, .int x6)] → W p l e { frames := 0, cells := 0, slots := 0, locals := 0 } s m args below meth c H locs 0 0 (MQ below (QC D (some (.int res.1)) (wC ad cy res.2) A) args s 0 0 A) (F0 m 17 ls [])) : ∀ (st : StT) (x2 : Int32) (x3 : Int32) (x4 : Int32) (x5 : Int32) (x6 : Int32), f_X1_findIn_F0_77 n k17 st x2 x3 x4 x5 x6 = some res → ∀ (H : Heap) (locs : List Loc) (ls : Array Slot), ZG D (wC ad cy st) A s H locs → lv_has ls 7 [(0, .ref (ad 4)), (2, .int x2), (3, .int x3), (4, .int x4), (5, .int x5), (6, .int x6)] → W p l e { frames := 0, cells := 0, slots := 0, locals := 0 } s m args below meth c H locs 0 0 (MQ below (QC D (some (.int res.1)) (wC ad cy res.2) A) args s 0 0 A) (F0 m 77 ls []) := by
  have hx := F.1
  have hb := F.2.1
  intro st x2 x3 x4 x5 x6 hf H locs ls Z hl
  unfold f_X1_findIn_F0_77 at hf
  refine lv_aload_n hx hb dX1_findIn_77 rfl (lv_at hl 0 rfl) ?_
  refine grX1_38_4 F K Z dX1_findIn_78 ?_
  refine lv_iload hx hb dX1_findIn_81 (lv_at hl 4 rfl) ?_
  obtain ⟨i83, hf⟩ := if_some hf
  refine al9 F K Z i83 dX1_findIn_83 ?_
  refine lv_iconst (v := 1) hx hb dX1_findIn_84 (by decide) ?_
  refine lv_isub hx hb dX1_findIn_85 ?_
  refine lv_istore (lv' := [(5, .int ((st.2.1 6 (x5).toNatClampNeg) - (1 : Int32))), (0, .ref (ad 4)), (2, .int x2), (3, .int x3), (4, .int x4), (6, .int x6)]) hx hb dX1_findIn_86 hl (by decide) rfl (fun ls hl => ?_)
  refine lv_iinc (v := (x6 + (1 : Int32))) (lv' := [(6, .int (x6 + (1 : Int32))), (5, .int ((st.2.1 6 (x5).toNatClampNeg) - (1 : Int32))), (0, .ref (ad 4)), (2, .int x2), (3, .int x3), (4, .int x4)]) hx hb dX1_findIn_88 hl (k := 5) rfl (congrArg (fun z => x6 + z) (by decide)) (by decide) rfl (fun ls hl => ?_)
  refine lv_goto (tgt := 17) hx hb dX1_findIn_91 (by decide) ?_
  exact hk17 _ _ _ _ _ _ hf _ _ _ Z (lv_sub hl [2, 3, 4, 5, 1, 0] rfl)
set_option maxRecDepth 100000 in
set_option maxHeartbeats 4000000 in
theorem b_X1_findIn_F0_17 {p : Program} {l : Launch} {e : Env} {s : State} {m : MethodId} {args : Array Value} {below : List Frame} {meth : Method} {c : Code} {D : va_G} {A : Nat → Prop} {ad : Nat → Nat} {cy : Nat → ClassId} {ee : EE} {n : Nat} {res : (Int32 × StT)} (F : CallFix p m c cX1_findIn 7 s args (Cond.code yX1_findIn cX1_findIn 7 (some .int) :: Gw) yX1_findIn.cls) (hr : meth.sig.returnType = (some .int)) (hk : meth.locks = false) (K : va_K D vwCl (tyL cy) s) (E : EV ee A s s.heap) (hA : ∀ q, s.heap.size ≤ q → A q) : ∀ (k : Nat) (st : StT) (x2 : Int32) (x3 : Int32) (x4 : Int32) (x5 : Int32) (x6 : Int32), f_X1_findIn_F0_17 n k st x2 x3 x4 x5 x6 = some res → ∀ (H : Heap) (locs : List Loc) (ls : Array Slot), ZG D (wC ad cy st) A s H locs → lv_has ls 7 [(0, .ref (ad 4)), (2, .int x2), (3, .int x3), (4, .int x4), (5, .int x5), (6, .int x6)] → W p l e { frames := 0, cells := 0, slots := 0, locals := 0 } s m args below meth c H locs 0 0 (MQ below (QC D (some (.int res.1)) (wC ad cy res.2) A) args s 0 0 A) (F0 m 17 ls []) := by
  have hx := F.1
  have hb := F.2.1
  intro k
  induction k with
  | zero =>
    intro st x2 x3 x4 x5 x6 hf
    exact absurd hf (by simp [f_X1_findIn_F0_17])
  | succ k ih =>
    intro st x2 x3 x4 x5 x6 hf H locs ls Z hl
    rw [f_X1_findIn_F0_17] at hf
    refine lv_iload hx hb dX1_findIn_17 (lv_at hl 5 rfl) ?_
    refine lv_aload_n hx hb dX1_findIn_19 rfl (lv_at hl 0 rfl) ?_
    refine grX1_45_4 F K Z dX1_findIn_20 ?_
    refine lv_icmp_ge (tgt := 94) hx hb dX1_findIn_23 (by decide) (fun c23 => ?_) (fun c23 => ?_)
    · have hf := if_t c23 hf
      refine lv_iconst (v := -1) hx hb dX1_findIn_94 (by decide) ?_
      have hf := Option.some.inj hf
      subst hf
      exact ret_i F hr hk Z dX1_findIn_95
    have hf := if_f c23 hf
    refine lv_iload hx hb dX1_findIn_26 (lv_at hl 4 rfl) ?_
    refine lv_if_lt (tgt := 94) hx hb dX1_findIn_28 (by decide) (fun c28 => ?_) (fun c28 => ?_)
    · have hf := if_t c28 hf
      refine lv_iconst (v := -1) hx hb dX1_findIn_94 (by decide) ?_
      have hf := Option.some.inj hf
      subst hf
      exact ret_i F hr hk Z dX1_findIn_95
    have hf := if_f c28 hf
    refine lv_iload hx hb dX1_findIn_31 (lv_at hl 4 rfl) ?_
    refine lv_aload_n hx hb dX1_findIn_33 rfl (lv_at hl 0 rfl) ?_
    refine grX1_25_4 F K Z dX1_findIn_34 ?_
    refine lv_icmp_ge (tgt := 94) hx hb dX1_findIn_37 (by decide) (fun c37 => ?_) (fun c37 => ?_)
    · have hf := if_t c37 hf
      refine lv_iconst (v := -1) hx hb dX1_findIn_94 (by decide) ?_
      have hf := Option.some.inj hf
      subst hf
      exact ret_i F hr hk Z dX1_findIn_95
    have hf := if_f c37 hf
    refine lv_aload_n hx hb dX1_findIn_40 rfl (lv_at hl 0 rfl) ?_
    refine grX1_29_4 F K Z dX1_findIn_41 ?_
    refine lv_iload hx hb dX1_findIn_44 (lv_at hl 4 rfl) ?_
    obtain ⟨i46, hf⟩ := if_some hf
    refine al5 F K Z i46 dX1_findIn_46 ?_
    refine lv_iload_n hx hb dX1_findIn_47 rfl (lv_at hl 1 rfl) ?_
    refine lv_icmp_ne (tgt := 77) hx hb dX1_findIn_48 (by decide) (fun c48 => ?_) (fun c48 => ?_)
    · have hf := if_f c48 hf
      exact b_X1_findIn_F0_77 F hr hk K E hA ih _ _ _ _ _ _ hf _ _ _ Z hl
    have hf := if_t c48 hf
    refine lv_aload_n hx hb dX1_findIn_51 rfl (lv_at hl 0 rfl) ?_
    refine grX1_32_4 F K Z dX1_findIn_52 ?_
    refine lv_iload hx hb dX1_findIn_55 (lv_at hl 4 rfl) ?_
    obtain ⟨i57, hf⟩ := if_some hf
    refine al6 F K Z i57 dX1_findIn_57 ?_
    refine lv_iload_n hx hb dX1_findIn_58 rfl (lv_at hl 2 rfl) ?_
    refine lv_icmp_ne (tgt := 77) hx hb dX1_findIn_59 (by decide) (fun c59 => ?_) (fun c59 => ?_)
    · have hf := if_f c59 hf
      exact b_X1_findIn_F0_77 F hr hk K E hA ih _ _ _ _ _ _ hf _ _ _ Z hl
    have hf := if_t c59 hf
    refine lv_aload_n hx hb dX1_findIn_62 rfl (lv_at hl 0 rfl) ?_
    refine grX1_35_4 F K Z dX1_findIn_63 ?_
    refine lv_iload hx hb dX1_findIn_66 (lv_at hl 4 rfl) ?_
    obtain ⟨i68, hf⟩ := if_some hf
    refine al7 F K Z i68 dX1_findIn_68 ?_
    refine lv_iload hx hb dX1_findIn_69 (lv_at hl 3 rfl) ?_
    refine lv_icmp_ne (tgt := 77) hx hb dX1_findIn_71 (by decide) (fun c71 => ?_) (fun c71 => ?_)
    · have hf := if_f c71 hf
      exact b_X1_findIn_F0_77 F hr hk K E hA ih _ _ _ _ _ _ hf _ _ _ Z hl
    have hf := if_t c71 hf
    refine lv_iload hx hb dX1_findIn_74 (lv_at hl 4 rfl) ?_
    have hf := Option.some.inj hf
    subst hf
    exact ret_i F hr hk Z dX1_findIn_76
set_option maxRecDepth 100000 in
set_option maxHeartbeats 4000000 in
theorem c_X1_findIn_F0 {l : Launch} {D : va_G} {ad : Nat → Nat} {cy : Nat → ClassId} {ee : EE} {n : Nat} {st : StT} {x1 : Int32} {x2 : Int32} {x3 : Int32} {x4 : Int32} {res : (Int32 × StT)} (hf : f_X1_findIn_F0 n st x1 x2 x3 x4 = some res) : CT l yX1_findIn cX1_findIn 7 (some .int) 0 0 D cy ee (wC ad cy st) (wC ad cy res.2) [.ref (ad 4), .int x1, .int x2, .int x3, .int x4] (some (.int res.1)) := by
  refine CT.of (by decide +kernel) (Nat.le_of_ble_eq_true rfl) ?_
  intro p e s m args below meth c A F hr hk K E hA Z ls hl
  have hl : lv_has ls 7 [(0, .ref (ad 4)), (1, .int x1), (2, .int x2), (3, .int x3), (4, .int x4)] := hl
  have hx := F.1
  have hb := F.2.1
  unfold f_X1_findIn_F0 at hf
  refine lv_aload_n hx hb dX1_findIn_0 rfl (lv_at hl 0 rfl) ?_
  refine grX1_11_4 F K Z dX1_findIn_1 ?_
  refine lv_iload_n hx hb dX1_findIn_4 rfl (lv_at hl 1 rfl) ?_
  refine lv_sipush (v := 1023) hx hb dX1_findIn_5 (by decide) ?_
  refine lv_iand hx hb dX1_findIn_8 ?_
  obtain ⟨i9, hf⟩ := if_some hf
  refine al8 F K Z i9 dX1_findIn_9 ?_
  refine lv_iconst (v := 1) hx hb dX1_findIn_10 (by decide) ?_
  refine lv_isub hx hb dX1_findIn_11 ?_
  refine lv_istore (lv' := [(5, .int ((st.2.1 5 ((x1 &&& (1023 : Int32))).toNatClampNeg) - (1 : Int32))), (0, .ref (ad 4)), (1, .int x1), (2, .int x2), (3, .int x3), (4, .int x4)]) hx hb dX1_findIn_12 hl (by decide) rfl (fun ls hl => ?_)
  refine lv_iconst (v := 0) hx hb dX1_findIn_14 (by decide) ?_
  refine lv_istore (lv' := [(6, .int (0 : Int32)), (5, .int ((st.2.1 5 ((x1 &&& (1023 : Int32))).toNatClampNeg) - (1 : Int32))), (0, .ref (ad 4)), (1, .int x1), (2, .int x2), (3, .int x3), (4, .int x4)]) hx hb dX1_findIn_15 hl (by decide) rfl (fun ls hl => ?_)
  exact b_X1_findIn_F0_17 F hr hk K E hA _ _ _ _ _ _ _ hf _ _ _ Z (lv_sub hl [2, 4, 5, 6, 1, 0] rfl)
def f_X1_find_F0 (n : Nat) (st : StT) (x1 : Int32) (x2 : Int32) (x3 : Int32) : Option (Int32 × StT) := (f_X1_chainOf n st x1 x2 x3).bind fun q4 => ((f_X1_findIn_F0 n q4.2 q4.1 x1 x2 x3).bind fun q10 => (some (q10.1, q10.2)))
theorem wd22 : Cond.methodLink RX1 58 yX1_findIn ∈ Gw := gT1 (List.mem_of_getElem? (i := 79) rfl) rfl
theorem wd23 : Cond.code yX1_findIn prog_3_method_11_code 7 (some .int) ∈ Gw := gT1 (List.mem_of_getElem? (i := 82) rfl) rfl
theorem wd24 : Cond.instanceMethod yX1_findIn ∈ Gw := gT1 (List.mem_of_getElem? (i := 81) rfl) rfl
theorem wd25 : Cond.selects RX1 yX1_findIn yX1_findIn ∈ Gw := gP1 (q := (yX1_findIn, 9)) (List.mem_of_getElem? (i := 0) rfl)
theorem wd26 : Cond.methodLink RX1 55 yX1_chainOf ∈ Gw := gT1 (List.mem_of_getElem? (i := 76) rfl) rfl
theorem wd27 : Cond.code yX1_chainOf prog_3_method_13_code 3 (some .int) ∈ Gw := gT1 (List.mem_of_getElem? (i := 78) rfl) rfl
theorem wd28 : Cond.static yX1_chainOf ∈ Gw := gT1 (List.mem_of_getElem? (i := 77) rfl) rfl
section
variable {p : Program} {l : Launch} {e : Env} {R : Room} {s : State} {m : MethodId} {args : Array Value} {below : List Frame} {meth : Method} {c : Code} {H : Heap} {locs : List Loc} {Q : State → Prop}
variable {cc : ByteArray} {nL pc : Nat} {ls : Array Slot} {rest : List Value} {D : va_G} {A : Nat → Prop} {cw : Cond} {ad : Nat → Nat} {cy : Nat → ClassId} {ee : EE} {st : StT} {own : String}
theorem krX1_58_X1_findIn_F0 {n : Nat} {a0 : Int32} {a1 : Int32} {a2 : Int32} {a3 : Int32} {q : (Int32 × StT)} (F : CallFix p m c cc nL s args (cw :: Gw) RX1) (K : va_K D vwCl (tyL cy) s) (E : EV ee A s s.heap) (hA : ∀ q, s.heap.size ≤ q → A q) (Z : ZG D (wC ad cy st) A s H locs) (hf : f_X1_findIn_F0 n st a0 a1 a2 a3 = some q) (hR : 1 ≤ R.frames ∧ 26 ≤ R.locals) (hl : ls.size = nL) (hst : (rest.map fun v => v.category).sum ≤ 8) (hd : decode cc pc = .ok (.invokevirtual 58, 3)) (kk : ∀ (H1 : Heap) (locs1 : List Loc), ZG D (wC ad cy q.2) A s H1 locs1 → W p l e R s m args below meth c H1 locs1 0 0 Q (F0 m (pc + 3) ls (.int q.1 :: rest))) : W p l e R s m args below meth c H locs 0 0 Q (F0 m pc ls (.int a3 :: .int a2 :: .int a1 :: .int a0 :: .ref (ad 4) :: rest)) :=
  call_V (q := (RX1, TX1, 9)) (n := 4) (As := [.int a0, .int a1, .int a2, .int a3]) (rv := some (.int q.1)) 4 1 F K E hA Z (c_X1_findIn_F0 (l := l) (D := D) (ad := ad) (cy := cy) (ee := ee) hf) ⟨wd23, wd22, wd24, wd25, wd17⟩ (by decide +kernel) rfl rfl hR rfl hl hst hd kk
theorem krX1_55_X1_chainOf {n : Nat} {a0 : Int32} {a1 : Int32} {a2 : Int32} {q : (Int32 × StT)} (F : CallFix p m c cc nL s args (cw :: Gw) RX1) (K : va_K D vwCl (tyL cy) s) (E : EV ee A s s.heap) (hA : ∀ q, s.heap.size ≤ q → A q) (Z : ZG D (wC ad cy st) A s H locs) (hf : f_X1_chainOf n st a0 a1 a2 = some q) (hR : 1 ≤ R.frames ∧ 22 ≤ R.locals) (hl : ls.size = nL) (hst : (rest.map fun v => v.category).sum ≤ 8) (hd : decode cc pc = .ok (.invokestatic 55, 3)) (kk : ∀ (H1 : Heap) (locs1 : List Loc), ZG D (wC ad cy q.2) A s H1 locs1 → W p l e R s m args below meth c H1 locs1 0 0 Q (F0 m (pc + 3) ls (.int q.1 :: rest))) : W p l e R s m args below meth c H locs 0 0 Q (F0 m pc ls (.int a2 :: .int a1 :: .int a0 :: rest)) :=
  call_S (n := 3) (As := [.int a0, .int a1, .int a2]) (rv := some (.int q.1)) F K E hA Z (c_X1_chainOf (l := l) (D := D) (ad := ad) (cy := cy) (ee := ee) hf) ⟨wd27, wd26, wd28, wd17⟩ (by decide +kernel) hR rfl hl hst hd kk
end
set_option maxRecDepth 100000 in
set_option maxHeartbeats 4000000 in
theorem c_X1_find_F0 {l : Launch} {D : va_G} {ad : Nat → Nat} {cy : Nat → ClassId} {ee : EE} {n : Nat} {st : StT} {x1 : Int32} {x2 : Int32} {x3 : Int32} {res : (Int32 × StT)} (hf : f_X1_find_F0 n st x1 x2 x3 = some res) : CT l yX1_find cX1_find 4 (some .int) 1 26 D cy ee (wC ad cy st) (wC ad cy res.2) [.ref (ad 4), .int x1, .int x2, .int x3] (some (.int res.1)) := by
  refine CT.of (by decide +kernel) (Nat.le_of_ble_eq_true rfl) ?_
  intro p e s m args below meth c A F hr hk K E hA Z ls hl
  have hl : lv_has ls 4 [(0, .ref (ad 4)), (1, .int x1), (2, .int x2), (3, .int x3)] := hl
  have hx := F.1
  have hb := F.2.1
  unfold f_X1_find_F0 at hf
  refine lv_aload_n hx hb dX1_find_0 rfl (lv_at hl 0 rfl) ?_
  refine lv_iload_n hx hb dX1_find_1 rfl (lv_at hl 1 rfl) ?_
  refine lv_iload_n hx hb dX1_find_2 rfl (lv_at hl 2 rfl) ?_
  refine lv_iload_n hx hb dX1_find_3 rfl (lv_at hl 3 rfl) ?_
  obtain ⟨q4, h4, hf⟩ := bind_some hf
  refine krX1_55_X1_chainOf F K E hA Z h4 ⟨Nat.le_of_ble_eq_true rfl, Nat.le_of_ble_eq_true rfl⟩ hl.1 (Nat.le_of_ble_eq_true rfl) dX1_find_4 (fun H locs Z => ?_)
  refine lv_iload_n hx hb dX1_find_7 rfl (lv_at hl 1 rfl) ?_
  refine lv_iload_n hx hb dX1_find_8 rfl (lv_at hl 2 rfl) ?_
  refine lv_iload_n hx hb dX1_find_9 rfl (lv_at hl 3 rfl) ?_
  obtain ⟨q10, h10, hf⟩ := bind_some hf
  refine krX1_58_X1_findIn_F0 F K E hA Z h10 ⟨Nat.le_of_ble_eq_true rfl, Nat.le_of_ble_eq_true rfl⟩ hl.1 (Nat.le_of_ble_eq_true rfl) dX1_find_10 (fun H locs Z => ?_)
  have hf := Option.some.inj hf
  subst hf
  exact ret_i F hr hk Z dX1_find_13
def f_X1_addTo_F0 (n : Nat) (st : StT) (x1 : Int32) (x2 : Int32) (x3 : Int32) (x4 : Int32) : Option (Int32 × StT) := if (st.1 6) < 0 then (some ((-1 : Int32), st)) else (if (st.1 6) < (2000 : Int32) then (if inB (st.1 6) 2000 = true then (if inB (st.1 6) 2000 = true then (if inB (st.1 6) 2000 = true then (if inB (x1 &&& (1023 : Int32)) 1024 = true then (if inB (st.1 6) 2000 = true then (if inB (x1 &&& (1023 : Int32)) 1024 = true then (some ((st.1 6), (uA (uF (uA (uA (uA (uA st 2 (st.1 6) x2) 3 (st.1 6) x3) 4 (st.1 6) x4) 6 (st.1 6) ((uA (uA (uA st 2 (st.1 6) x2) 3 (st.1 6) x3) 4 (st.1 6) x4).2.1 5 ((x1 &&& (1023 : Int32))).toNatClampNeg)) 6 (((uA (uA (uA (uA st 2 (st.1 6) x2) 3 (st.1 6) x3) 4 (st.1 6) x4) 6 (st.1 6) ((uA (uA (uA st 2 (st.1 6) x2) 3 (st.1 6) x3) 4 (st.1 6) x4).2.1 5 ((x1 &&& (1023 : Int32))).toNatClampNeg)).1 6) + (1 : Int32))) 5 (x1 &&& (1023 : Int32)) ((uF (uA (uA (uA (uA st 2 (st.1 6) x2) 3 (st.1 6) x3) 4 (st.1 6) x4) 6 (st.1 6) ((uA (uA (uA st 2 (st.1 6) x2) 3 (st.1 6) x3) 4 (st.1 6) x4).2.1 5 ((x1 &&& (1023 : Int32))).toNatClampNeg)) 6 (((uA (uA (uA (uA st 2 (st.1 6) x2) 3 (st.1 6) x3) 4 (st.1 6) x4) 6 (st.1 6) ((uA (uA (uA st 2 (st.1 6) x2) 3 (st.1 6) x3) 4 (st.1 6) x4).2.1 5 ((x1 &&& (1023 : Int32))).toNatClampNeg)).1 6) + (1 : Int32))).1 6)))) else none) else none) else none) else none) else none) else none) else (some ((-1 : Int32), st)))
section
variable {p : Program} {l : Launch} {e : Env} {R : Room} {s : State} {m : MethodId} {args : Array Value} {below : List Frame} {meth : Method} {c : Code} {H : Heap} {locs : List Loc} {Q : State → Prop}
variable {cc : ByteArray} {nL pc : Nat} {ls : Array Slot} {rest : List Value} {D : va_G} {A : Nat → Prop} {cw : Cond} {ad : Nat → Nat} {cy : Nat → ClassId} {ee : EE} {st : StT} {own : String}
theorem as5 {i : Int32} {v : Int32} (F : CallFix p m c cc nL s args (cw :: Gw) own) (K : va_K D vwCl (tyL cy) s) (Z : ZG D (wC ad cy st) A s H locs) (hi : inB i 2000 = true) (hd : decode cc pc = .ok (.iastore, 1)) (kk : ∀ (H1 : Heap) (locs1 : List Loc), ZG D (wC ad cy (uA st 2 i v)) A s H1 locs1 → W p l e R s m args below meth c H1 locs1 0 0 Q (F0 m (pc + 1) ls rest)) : W p l e R s m args below meth c H locs 0 0 Q (F0 m pc ls (.int v :: .int i :: .ref (ad 5) :: rest)) :=
  va_iast F.1 F.2.1 K Z.1 Z.2.1 Z.2.2 5 1 rfl rfl (inB_vp hi) hd (fun H1 locs1 hP hD hS => kk H1 locs1 ⟨hP, hD, hS⟩)
theorem as6 {i : Int32} {v : Int32} (F : CallFix p m c cc nL s args (cw :: Gw) own) (K : va_K D vwCl (tyL cy) s) (Z : ZG D (wC ad cy st) A s H locs) (hi : inB i 2000 = true) (hd : decode cc pc = .ok (.iastore, 1)) (kk : ∀ (H1 : Heap) (locs1 : List Loc), ZG D (wC ad cy (uA st 3 i v)) A s H1 locs1 → W p l e R s m args below meth c H1 locs1 0 0 Q (F0 m (pc + 1) ls rest)) : W p l e R s m args below meth c H locs 0 0 Q (F0 m pc ls (.int v :: .int i :: .ref (ad 6) :: rest)) :=
  va_iast F.1 F.2.1 K Z.1 Z.2.1 Z.2.2 6 1 rfl rfl (inB_vp hi) hd (fun H1 locs1 hP hD hS => kk H1 locs1 ⟨hP, hD, hS⟩)
theorem as7 {i : Int32} {v : Int32} (F : CallFix p m c cc nL s args (cw :: Gw) own) (K : va_K D vwCl (tyL cy) s) (Z : ZG D (wC ad cy st) A s H locs) (hi : inB i 2000 = true) (hd : decode cc pc = .ok (.iastore, 1)) (kk : ∀ (H1 : Heap) (locs1 : List Loc), ZG D (wC ad cy (uA st 4 i v)) A s H1 locs1 → W p l e R s m args below meth c H1 locs1 0 0 Q (F0 m (pc + 1) ls rest)) : W p l e R s m args below meth c H locs 0 0 Q (F0 m pc ls (.int v :: .int i :: .ref (ad 7) :: rest)) :=
  va_iast F.1 F.2.1 K Z.1 Z.2.1 Z.2.2 7 1 rfl rfl (inB_vp hi) hd (fun H1 locs1 hP hD hS => kk H1 locs1 ⟨hP, hD, hS⟩)
theorem as9 {i : Int32} {v : Int32} (F : CallFix p m c cc nL s args (cw :: Gw) own) (K : va_K D vwCl (tyL cy) s) (Z : ZG D (wC ad cy st) A s H locs) (hi : inB i 2000 = true) (hd : decode cc pc = .ok (.iastore, 1)) (kk : ∀ (H1 : Heap) (locs1 : List Loc), ZG D (wC ad cy (uA st 6 i v)) A s H1 locs1 → W p l e R s m args below meth c H1 locs1 0 0 Q (F0 m (pc + 1) ls rest)) : W p l e R s m args below meth c H locs 0 0 Q (F0 m pc ls (.int v :: .int i :: .ref (ad 9) :: rest)) :=
  va_iast F.1 F.2.1 K Z.1 Z.2.1 Z.2.2 9 1 rfl rfl (inB_vp hi) hd (fun H1 locs1 hP hD hS => kk H1 locs1 ⟨hP, hD, hS⟩)
theorem prX1_45_4 {v : Int32} (F : CallFix p m c cc nL s args (cw :: Gw) RX1) (K : va_K D vwCl (tyL cy) s) (Z : ZG D (wC ad cy st) A s H locs) (hd : decode cc pc = .ok (.putfield 45, 3)) (kk : ∀ (H1 : Heap) (locs1 : List Loc), ZG D (wC ad cy (uF st 6 v)) A s H1 locs1 → W p l e R s m args below meth c H1 locs1 0 0 Q (F0 m (pc + 3) ls rest)) : W p l e R s m args below meth c H locs 0 0 Q (F0 m pc ls (.int v :: .ref (ad 4) :: rest)) :=
  va_put (D := D) (ci := 1) (v := .int v) (ty := .int) (C := RX1) (T := TX1) (N := 9) F.1 F.2.1 F.2.2.2.2 (fun w h => List.mem_cons_of_mem _ (inG_X1 w h)) tyX1 tyX1_ok nmX1 F.2.2.2.1 K Z.1 Z.2.1 Z.2.2 4 rfl rfl 7 (by decide) (F.2.2.2.2 _ (List.mem_cons_of_mem _ wd9)) (fun _ h => h) rfl (by decide +kernel) rfl rfl (Nat.le_of_ble_eq_true rfl) hd (fun H1 locs1 hP hD hS => kk H1 locs1 ⟨hP, hD, hS⟩)
theorem as8 {i : Int32} {v : Int32} (F : CallFix p m c cc nL s args (cw :: Gw) own) (K : va_K D vwCl (tyL cy) s) (Z : ZG D (wC ad cy st) A s H locs) (hi : inB i 1024 = true) (hd : decode cc pc = .ok (.iastore, 1)) (kk : ∀ (H1 : Heap) (locs1 : List Loc), ZG D (wC ad cy (uA st 5 i v)) A s H1 locs1 → W p l e R s m args below meth c H1 locs1 0 0 Q (F0 m (pc + 1) ls rest)) : W p l e R s m args below meth c H locs 0 0 Q (F0 m pc ls (.int v :: .int i :: .ref (ad 8) :: rest)) :=
  va_iast F.1 F.2.1 K Z.1 Z.2.1 Z.2.2 8 1 rfl rfl (inB_vp hi) hd (fun H1 locs1 hP hD hS => kk H1 locs1 ⟨hP, hD, hS⟩)
end
set_option maxRecDepth 100000 in
set_option maxHeartbeats 4000000 in
theorem c_X1_addTo_F0 {l : Launch} {D : va_G} {ad : Nat → Nat} {cy : Nat → ClassId} {ee : EE} {n : Nat} {st : StT} {x1 : Int32} {x2 : Int32} {x3 : Int32} {x4 : Int32} {res : (Int32 × StT)} (hf : f_X1_addTo_F0 n st x1 x2 x3 x4 = some res) : CT l yX1_addTo cX1_addTo 7 (some .int) 0 0 D cy ee (wC ad cy st) (wC ad cy res.2) [.ref (ad 4), .int x1, .int x2, .int x3, .int x4] (some (.int res.1)) := by
  refine CT.of (by decide +kernel) (Nat.le_of_ble_eq_true rfl) ?_
  intro p e s m args below meth c A F hr hk K E hA Z ls hl
  have hl : lv_has ls 7 [(0, .ref (ad 4)), (1, .int x1), (2, .int x2), (3, .int x3), (4, .int x4)] := hl
  have hx := F.1
  have hb := F.2.1
  unfold f_X1_addTo_F0 at hf
  refine lv_aload_n hx hb dX1_addTo_0 rfl (lv_at hl 0 rfl) ?_
  refine grX1_45_4 F K Z dX1_addTo_1 ?_
  refine lv_if_lt (tgt := 18) hx hb dX1_addTo_4 (by decide) (fun c4 => ?_) (fun c4 => ?_)
  · have hf := if_t c4 hf
    refine lv_iconst (v := -1) hx hb dX1_addTo_18 (by decide) ?_
    have hf := Option.some.inj hf
    subst hf
    exact ret_i F hr hk Z dX1_addTo_19
  have hf := if_f c4 hf
  refine lv_aload_n hx hb dX1_addTo_7 rfl (lv_at hl 0 rfl) ?_
  refine grX1_45_4 F K Z dX1_addTo_8 ?_
  refine lv_aload_n hx hb dX1_addTo_11 rfl (lv_at hl 0 rfl) ?_
  refine grX1_25_4 F K Z dX1_addTo_12 ?_
  refine lv_icmp_lt (tgt := 20) hx hb dX1_addTo_15 (by decide) (fun c15 => ?_) (fun c15 => ?_)
  · have hf := if_t c15 hf
    refine lv_iload_n hx hb dX1_addTo_20 rfl (lv_at hl 1 rfl) ?_
    refine lv_sipush (v := 1023) hx hb dX1_addTo_21 (by decide) ?_
    refine lv_iand hx hb dX1_addTo_24 ?_
    refine lv_istore (lv' := [(5, .int (x1 &&& (1023 : Int32))), (0, .ref (ad 4)), (1, .int x1), (2, .int x2), (3, .int x3), (4, .int x4)]) hx hb dX1_addTo_25 hl (by decide) rfl (fun ls hl => ?_)
    refine lv_aload_n hx hb dX1_addTo_27 rfl (lv_at hl 1 rfl) ?_
    refine grX1_45_4 F K Z dX1_addTo_28 ?_
    refine lv_istore (lv' := [(6, .int (st.1 6)), (5, .int (x1 &&& (1023 : Int32))), (0, .ref (ad 4)), (1, .int x1), (2, .int x2), (3, .int x3), (4, .int x4)]) hx hb dX1_addTo_31 hl (by decide) rfl (fun ls hl => ?_)
    refine lv_aload_n hx hb dX1_addTo_33 rfl (lv_at hl 2 rfl) ?_
    refine grX1_29_4 F K Z dX1_addTo_34 ?_
    refine lv_iload hx hb dX1_addTo_37 (lv_at hl 0 rfl) ?_
    refine lv_iload_n hx hb dX1_addTo_39 rfl (lv_at hl 4 rfl) ?_
    obtain ⟨i40, hf⟩ := if_some hf
    refine as5 F K Z i40 dX1_addTo_40 (fun H locs Z => ?_)
    refine lv_aload_n hx hb dX1_addTo_41 rfl (lv_at hl 2 rfl) ?_
    refine grX1_32_4 F K Z dX1_addTo_42 ?_
    refine lv_iload hx hb dX1_addTo_45 (lv_at hl 0 rfl) ?_
    refine lv_iload_n hx hb dX1_addTo_47 rfl (lv_at hl 5 rfl) ?_
    obtain ⟨i48, hf⟩ := if_some hf
    refine as6 F K Z i48 dX1_addTo_48 (fun H locs Z => ?_)
    refine lv_aload_n hx hb dX1_addTo_49 rfl (lv_at hl 2 rfl) ?_
    refine grX1_35_4 F K Z dX1_addTo_50 ?_
    refine lv_iload hx hb dX1_addTo_53 (lv_at hl 0 rfl) ?_
    refine lv_iload hx hb dX1_addTo_55 (lv_at hl 6 rfl) ?_
    obtain ⟨i57, hf⟩ := if_some hf
    refine as7 F K Z i57 dX1_addTo_57 (fun H locs Z => ?_)
    refine lv_aload_n hx hb dX1_addTo_58 rfl (lv_at hl 2 rfl) ?_
    refine grX1_38_4 F K Z dX1_addTo_59 ?_
    refine lv_iload hx hb dX1_addTo_62 (lv_at hl 0 rfl) ?_
    refine lv_aload_n hx hb dX1_addTo_64 rfl (lv_at hl 2 rfl) ?_
    refine grX1_11_4 F K Z dX1_addTo_65 ?_
    refine lv_iload hx hb dX1_addTo_68 (lv_at hl 1 rfl) ?_
    obtain ⟨i70, hf⟩ := if_some hf
    refine al8 F K Z i70 dX1_addTo_70 ?_
    obtain ⟨i71, hf⟩ := if_some hf
    refine as9 F K Z i71 dX1_addTo_71 (fun H locs Z => ?_)
    refine lv_aload_n hx hb dX1_addTo_72 rfl (lv_at hl 2 rfl) ?_
    refine lv_dup hx hb dX1_addTo_73 rfl ?_
    refine grX1_45_4 F K Z dX1_addTo_74 ?_
    refine lv_iconst (v := 1) hx hb dX1_addTo_77 (by decide) ?_
    refine lv_iadd hx hb dX1_addTo_78 ?_
    refine prX1_45_4 F K Z dX1_addTo_79 (fun H locs Z => ?_)
    refine lv_aload_n hx hb dX1_addTo_82 rfl (lv_at hl 2 rfl) ?_
    refine grX1_11_4 F K Z dX1_addTo_83 ?_
    refine lv_iload hx hb dX1_addTo_86 (lv_at hl 1 rfl) ?_
    refine lv_aload_n hx hb dX1_addTo_88 rfl (lv_at hl 2 rfl) ?_
    refine grX1_45_4 F K Z dX1_addTo_89 ?_
    obtain ⟨i92, hf⟩ := if_some hf
    refine as8 F K Z i92 dX1_addTo_92 (fun H locs Z => ?_)
    refine lv_iload hx hb dX1_addTo_93 (lv_at hl 0 rfl) ?_
    have hf := Option.some.inj hf
    subst hf
    exact ret_i F hr hk Z dX1_addTo_95
  have hf := if_f c15 hf
  refine lv_iconst (v := -1) hx hb dX1_addTo_18 (by decide) ?_
  have hf := Option.some.inj hf
  subst hf
  exact ret_i F hr hk Z dX1_addTo_19
def f_X1_joined_F0 (n : Nat) (st : StT) (x1 : Int32) (x2 : Int32) (x3 : Int32) : Option (Int32 × StT) := (f_X1_chainOf n st x1 x2 x3).bind fun q3 => ((f_X1_findIn_F0 n q3.2 q3.1 x1 x2 x3).bind fun q14 => (if q14.1 < 0 then ((f_X1_addTo_F0 n q14.2 q3.1 x1 x2 x3).bind fun q35 => (some (q35.1, q35.2))) else (some (q14.1, q14.2))))
theorem wd29 : Cond.methodLink RX1 62 yX1_addTo ∈ Gw := gT1 (List.mem_of_getElem? (i := 83) rfl) rfl
theorem wd30 : Cond.code yX1_addTo prog_3_method_12_code 7 (some .int) ∈ Gw := gT1 (List.mem_of_getElem? (i := 86) rfl) rfl
theorem wd31 : Cond.instanceMethod yX1_addTo ∈ Gw := gT1 (List.mem_of_getElem? (i := 85) rfl) rfl
theorem wd32 : Cond.selects RX1 yX1_addTo yX1_addTo ∈ Gw := gP1 (q := (yX1_addTo, 9)) (List.mem_of_getElem? (i := 1) rfl)
section
variable {p : Program} {l : Launch} {e : Env} {R : Room} {s : State} {m : MethodId} {args : Array Value} {below : List Frame} {meth : Method} {c : Code} {H : Heap} {locs : List Loc} {Q : State → Prop}
variable {cc : ByteArray} {nL pc : Nat} {ls : Array Slot} {rest : List Value} {D : va_G} {A : Nat → Prop} {cw : Cond} {ad : Nat → Nat} {cy : Nat → ClassId} {ee : EE} {st : StT} {own : String}
theorem krX1_62_X1_addTo_F0 {n : Nat} {a0 : Int32} {a1 : Int32} {a2 : Int32} {a3 : Int32} {q : (Int32 × StT)} (F : CallFix p m c cc nL s args (cw :: Gw) RX1) (K : va_K D vwCl (tyL cy) s) (E : EV ee A s s.heap) (hA : ∀ q, s.heap.size ≤ q → A q) (Z : ZG D (wC ad cy st) A s H locs) (hf : f_X1_addTo_F0 n st a0 a1 a2 a3 = some q) (hR : 1 ≤ R.frames ∧ 26 ≤ R.locals) (hl : ls.size = nL) (hst : (rest.map fun v => v.category).sum ≤ 8) (hd : decode cc pc = .ok (.invokevirtual 62, 3)) (kk : ∀ (H1 : Heap) (locs1 : List Loc), ZG D (wC ad cy q.2) A s H1 locs1 → W p l e R s m args below meth c H1 locs1 0 0 Q (F0 m (pc + 3) ls (.int q.1 :: rest))) : W p l e R s m args below meth c H locs 0 0 Q (F0 m pc ls (.int a3 :: .int a2 :: .int a1 :: .int a0 :: .ref (ad 4) :: rest)) :=
  call_V (q := (RX1, TX1, 9)) (n := 4) (As := [.int a0, .int a1, .int a2, .int a3]) (rv := some (.int q.1)) 4 1 F K E hA Z (c_X1_addTo_F0 (l := l) (D := D) (ad := ad) (cy := cy) (ee := ee) hf) ⟨wd30, wd29, wd31, wd32, wd17⟩ (by decide +kernel) rfl rfl hR rfl hl hst hd kk
end
set_option maxRecDepth 100000 in
set_option maxHeartbeats 4000000 in
theorem c_X1_joined_F0 {l : Launch} {D : va_G} {ad : Nat → Nat} {cy : Nat → ClassId} {ee : EE} {n : Nat} {st : StT} {x1 : Int32} {x2 : Int32} {x3 : Int32} {res : (Int32 × StT)} (hf : f_X1_joined_F0 n st x1 x2 x3 = some res) : CT l yX1_joined cX1_joined 6 (some .int) 1 26 D cy ee (wC ad cy st) (wC ad cy res.2) [.ref (ad 4), .int x1, .int x2, .int x3] (some (.int res.1)) := by
  refine CT.of (by decide +kernel) (Nat.le_of_ble_eq_true rfl) ?_
  intro p e s m args below meth c A F hr hk K E hA Z ls hl
  have hl : lv_has ls 6 [(0, .ref (ad 4)), (1, .int x1), (2, .int x2), (3, .int x3)] := hl
  have hx := F.1
  have hb := F.2.1
  unfold f_X1_joined_F0 at hf
  refine lv_iload_n hx hb dX1_joined_0 rfl (lv_at hl 1 rfl) ?_
  refine lv_iload_n hx hb dX1_joined_1 rfl (lv_at hl 2 rfl) ?_
  refine lv_iload_n hx hb dX1_joined_2 rfl (lv_at hl 3 rfl) ?_
  obtain ⟨q3, h3, hf⟩ := bind_some hf
  refine krX1_55_X1_chainOf F K E hA Z h3 ⟨Nat.le_of_ble_eq_true rfl, Nat.le_of_ble_eq_true rfl⟩ hl.1 (Nat.le_of_ble_eq_true rfl) dX1_joined_3 (fun H locs Z => ?_)
  refine lv_istore (lv' := [(4, .int q3.1), (0, .ref (ad 4)), (1, .int x1), (2, .int x2), (3, .int x3)]) hx hb dX1_joined_6 hl (by decide) rfl (fun ls hl => ?_)
  refine lv_aload_n hx hb dX1_joined_8 rfl (lv_at hl 1 rfl) ?_
  refine lv_iload hx hb dX1_joined_9 (lv_at hl 0 rfl) ?_
  refine lv_iload_n hx hb dX1_joined_11 rfl (lv_at hl 2 rfl) ?_
  refine lv_iload_n hx hb dX1_joined_12 rfl (lv_at hl 3 rfl) ?_
  refine lv_iload_n hx hb dX1_joined_13 rfl (lv_at hl 4 rfl) ?_
  obtain ⟨q14, h14, hf⟩ := bind_some hf
  refine krX1_58_X1_findIn_F0 F K E hA Z h14 ⟨Nat.le_of_ble_eq_true rfl, Nat.le_of_ble_eq_true rfl⟩ hl.1 (Nat.le_of_ble_eq_true rfl) dX1_joined_14 (fun H locs Z => ?_)
  refine lv_istore (lv' := [(5, .int q14.1), (4, .int q3.1), (0, .ref (ad 4)), (1, .int x1), (2, .int x2), (3, .int x3)]) hx hb dX1_joined_17 hl (by decide) rfl (fun ls hl => ?_)
  refine lv_iload hx hb dX1_joined_19 (lv_at hl 0 rfl) ?_
  refine lv_if_lt (tgt := 29) hx hb dX1_joined_21 (by decide) (fun c21 => ?_) (fun c21 => ?_)
  · have hf := if_t c21 hf
    refine lv_aload_n hx hb dX1_joined_29 rfl (lv_at hl 2 rfl) ?_
    refine lv_iload hx hb dX1_joined_30 (lv_at hl 1 rfl) ?_
    refine lv_iload_n hx hb dX1_joined_32 rfl (lv_at hl 3 rfl) ?_
    refine lv_iload_n hx hb dX1_joined_33 rfl (lv_at hl 4 rfl) ?_
    refine lv_iload_n hx hb dX1_joined_34 rfl (lv_at hl 5 rfl) ?_
    obtain ⟨q35, h35, hf⟩ := bind_some hf
    refine krX1_62_X1_addTo_F0 F K E hA Z h35 ⟨Nat.le_of_ble_eq_true rfl, Nat.le_of_ble_eq_true rfl⟩ hl.1 (Nat.le_of_ble_eq_true rfl) dX1_joined_35 (fun H locs Z => ?_)
    have hf := Option.some.inj hf
    subst hf
    exact ret_i F hr hk Z dX1_joined_38
  have hf := if_f c21 hf
  refine lv_iload hx hb dX1_joined_24 (lv_at hl 0 rfl) ?_
  refine lv_goto (tgt := 38) hx hb dX1_joined_26 (by decide) ?_
  have hf := Option.some.inj hf
  subst hf
  exact ret_i F hr hk Z dX1_joined_38
def f_X1_drop_F0_2 (n : Nat) : Nat → StT → Int32 → Option StT
  | 0, _, _ => none
  | k + 1, st, x1 => if (st.1 6) ≤ x1 then (some (uF st 6 (0 : Int32))) else (if (2000 : Int32) ≤ x1 then (some (uF st 6 (0 : Int32))) else (if inB x1 2000 = true then (if inB x1 2000 = true then (if inB x1 2000 = true then ((f_X1_chainOf n st (st.2.1 2 (x1).toNatClampNeg) (st.2.1 3 (x1).toNatClampNeg) (st.2.1 4 (x1).toNatClampNeg)).bind fun q40 => (if inB q40.1 1024 = true then (f_X1_drop_F0_2 n k (uA q40.2 5 q40.1 (0 : Int32)) (x1 + (1 : Int32))) else none)) else none) else none) else none))
def f_X1_drop_F0 (n : Nat) (st : StT) : Option StT := f_X1_drop_F0_2 n n st (0 : Int32)
set_option maxRecDepth 100000 in
set_option maxHeartbeats 4000000 in
theorem b_X1_drop_F0_2 {p : Program} {l : Launch} {e : Env} {s : State} {m : MethodId} {args : Array Value} {below : List Frame} {meth : Method} {c : Code} {D : va_G} {A : Nat → Prop} {ad : Nat → Nat} {cy : Nat → ClassId} {ee : EE} {n : Nat} {res : StT} (F : CallFix p m c cX1_drop 2 s args (Cond.code yX1_drop cX1_drop 2 none :: Gw) yX1_drop.cls) (hr : meth.sig.returnType = none) (hk : meth.locks = false) (K : va_K D vwCl (tyL cy) s) (E : EV ee A s s.heap) (hA : ∀ q, s.heap.size ≤ q → A q) : ∀ (k : Nat) (st : StT) (x1 : Int32), f_X1_drop_F0_2 n k st x1 = some res → ∀ (H : Heap) (locs : List Loc) (ls : Array Slot), ZG D (wC ad cy st) A s H locs → lv_has ls 2 [(0, .ref (ad 4)), (1, .int x1)] → W p l e { frames := 1, cells := 0, slots := 0, locals := 22 } s m args below meth c H locs 0 0 (MQ below (QC D (none) (wC ad cy res) A) args s 0 0 A) (F0 m 2 ls []) := by
  have hx := F.1
  have hb := F.2.1
  intro k
  induction k with
  | zero =>
    intro st x1 hf
    exact absurd hf (by simp [f_X1_drop_F0_2])
  | succ k ih =>
    intro st x1 hf H locs ls Z hl
    rw [f_X1_drop_F0_2] at hf
    refine lv_iload_n hx hb dX1_drop_2 rfl (lv_at hl 1 rfl) ?_
    refine lv_aload_n hx hb dX1_drop_3 rfl (lv_at hl 0 rfl) ?_
    refine grX1_45_4 F K Z dX1_drop_4 ?_
    refine lv_icmp_ge (tgt := 51) hx hb dX1_drop_7 (by decide) (fun c7 => ?_) (fun c7 => ?_)
    · have hf := if_t c7 hf
      refine lv_aload_n hx hb dX1_drop_51 rfl (lv_at hl 0 rfl) ?_
      refine lv_iconst (v := 0) hx hb dX1_drop_52 (by decide) ?_
      refine prX1_45_4 F K Z dX1_drop_53 (fun H locs Z => ?_)
      have hf := Option.some.inj hf
      subst hf
      exact ret_v F hr hk Z dX1_drop_56
    have hf := if_f c7 hf
    refine lv_iload_n hx hb dX1_drop_10 rfl (lv_at hl 1 rfl) ?_
    refine lv_aload_n hx hb dX1_drop_11 rfl (lv_at hl 0 rfl) ?_
    refine grX1_25_4 F K Z dX1_drop_12 ?_
    refine lv_icmp_ge (tgt := 51) hx hb dX1_drop_15 (by decide) (fun c15 => ?_) (fun c15 => ?_)
    · have hf := if_t c15 hf
      refine lv_aload_n hx hb dX1_drop_51 rfl (lv_at hl 0 rfl) ?_
      refine lv_iconst (v := 0) hx hb dX1_drop_52 (by decide) ?_
      refine prX1_45_4 F K Z dX1_drop_53 (fun H locs Z => ?_)
      have hf := Option.some.inj hf
      subst hf
      exact ret_v F hr hk Z dX1_drop_56
    have hf := if_f c15 hf
    refine lv_aload_n hx hb dX1_drop_18 rfl (lv_at hl 0 rfl) ?_
    refine grX1_11_4 F K Z dX1_drop_19 ?_
    refine lv_aload_n hx hb dX1_drop_22 rfl (lv_at hl 0 rfl) ?_
    refine grX1_29_4 F K Z dX1_drop_23 ?_
    refine lv_iload_n hx hb dX1_drop_26 rfl (lv_at hl 1 rfl) ?_
    obtain ⟨i27, hf⟩ := if_some hf
    refine al5 F K Z i27 dX1_drop_27 ?_
    refine lv_aload_n hx hb dX1_drop_28 rfl (lv_at hl 0 rfl) ?_
    refine grX1_32_4 F K Z dX1_drop_29 ?_
    refine lv_iload_n hx hb dX1_drop_32 rfl (lv_at hl 1 rfl) ?_
    obtain ⟨i33, hf⟩ := if_some hf
    refine al6 F K Z i33 dX1_drop_33 ?_
    refine lv_aload_n hx hb dX1_drop_34 rfl (lv_at hl 0 rfl) ?_
    refine grX1_35_4 F K Z dX1_drop_35 ?_
    refine lv_iload_n hx hb dX1_drop_38 rfl (lv_at hl 1 rfl) ?_
    obtain ⟨i39, hf⟩ := if_some hf
    refine al7 F K Z i39 dX1_drop_39 ?_
    obtain ⟨q40, h40, hf⟩ := bind_some hf
    refine krX1_55_X1_chainOf F K E hA Z h40 ⟨Nat.le_of_ble_eq_true rfl, Nat.le_of_ble_eq_true rfl⟩ hl.1 (Nat.le_of_ble_eq_true rfl) dX1_drop_40 (fun H locs Z => ?_)
    refine lv_iconst (v := 0) hx hb dX1_drop_43 (by decide) ?_
    obtain ⟨i44, hf⟩ := if_some hf
    refine as8 F K Z i44 dX1_drop_44 (fun H locs Z => ?_)
    refine lv_iinc (v := (x1 + (1 : Int32))) (lv' := [(1, .int (x1 + (1 : Int32))), (0, .ref (ad 4))]) hx hb dX1_drop_45 hl (k := 1) rfl (congrArg (fun z => x1 + z) (by decide)) (by decide) rfl (fun ls hl => ?_)
    refine lv_goto (tgt := 2) hx hb dX1_drop_48 (by decide) ?_
    exact ih _ _ hf _ _ _ Z (lv_sub hl [1, 0] rfl)
set_option maxRecDepth 100000 in
set_option maxHeartbeats 4000000 in
theorem c_X1_drop_F0 {l : Launch} {D : va_G} {ad : Nat → Nat} {cy : Nat → ClassId} {ee : EE} {n : Nat} {st : StT} {res : StT} (hf : f_X1_drop_F0 n st = some res) : CT l yX1_drop cX1_drop 2 none 1 22 D cy ee (wC ad cy st) (wC ad cy res) [.ref (ad 4)] (none) := by
  refine CT.of (by decide +kernel) (Nat.le_of_ble_eq_true rfl) ?_
  intro p e s m args below meth c A F hr hk K E hA Z ls hl
  have hl : lv_has ls 2 [(0, .ref (ad 4))] := hl
  have hx := F.1
  have hb := F.2.1
  unfold f_X1_drop_F0 at hf
  refine lv_iconst (v := 0) hx hb dX1_drop_0 (by decide) ?_
  refine lv_istore_n (lv' := [(1, .int (0 : Int32)), (0, .ref (ad 4))]) hx hb dX1_drop_1 rfl hl (by decide) rfl (fun ls hl => ?_)
  exact b_X1_drop_F0_2 F hr hk K E hA _ _ _ hf _ _ _ Z (lv_sub hl [1, 0] rfl)
def f_X1_nameOf_F0 (n : Nat) (st : StT) (x1 : Int32) : Option (Int64 × StT) := (f_X1_hasVariable_F0 n st x1).bind fun q2 => (if q2.1 = 0 then (some ((0 : Int64), q2.2)) else (if inB x1 24 = true then (some ((q2.2.2.2.2 0 (x1).toNatClampNeg), q2.2)) else none))
theorem wd33 : Cond.fieldLink RX1 15 "WorldProver$Formulas" "names" "[J" ∈ Gw := gT1 (List.mem_of_getElem? (i := 93) rfl) rfl
theorem wd34 : Cond.methodLink RX1 65 yX1_hasVariable ∈ Gw := gT3 (List.mem_of_getElem? (i := 224) rfl) rfl
theorem wd35 : Cond.code yX1_hasVariable prog_3_method_5_code 2 (some .boolean) ∈ Gw := gT3 (List.mem_of_getElem? (i := 227) rfl) rfl
theorem wd36 : Cond.instanceMethod yX1_hasVariable ∈ Gw := gT3 (List.mem_of_getElem? (i := 225) rfl) rfl
theorem wd37 : Cond.selects RX1 yX1_hasVariable yX1_hasVariable ∈ Gw := gT3 (List.mem_of_getElem? (i := 226) rfl) rfl
section
variable {p : Program} {l : Launch} {e : Env} {R : Room} {s : State} {m : MethodId} {args : Array Value} {below : List Frame} {meth : Method} {c : Code} {H : Heap} {locs : List Loc} {Q : State → Prop}
variable {cc : ByteArray} {nL pc : Nat} {ls : Array Slot} {rest : List Value} {D : va_G} {A : Nat → Prop} {cw : Cond} {ad : Nat → Nat} {cy : Nat → ClassId} {ee : EE} {st : StT} {own : String}
theorem grX1_15_4 (F : CallFix p m c cc nL s args (cw :: Gw) RX1) (K : va_K D vwCl (tyL cy) s) (Z : ZG D (wC ad cy st) A s H locs) (hd : decode cc pc = .ok (.getfield 15, 3)) (kk : W p l e R s m args below meth c H locs 0 0 Q (F0 m (pc + 3) ls (.ref (ad 10) :: rest))) : W p l e R s m args below meth c H locs 0 0 Q (F0 m pc ls (.ref (ad 4) :: rest)) :=
  va_get (D := D) (ci := 1) (C := RX1) (T := TX1) (N := 9) F.1 F.2.1 F.2.2.2.2 (fun w h => List.mem_cons_of_mem _ (inG_X1 w h)) F.2.2.2.1 K Z.1 4 rfl rfl 6 (by decide) (F.2.2.2.2 _ (List.mem_cons_of_mem _ wd33)) (fun _ h => h) rfl hd kk
theorem al10 {i : Int32} (F : CallFix p m c cc nL s args (cw :: Gw) own) (K : va_K D vwCl (tyL cy) s) (Z : ZG D (wC ad cy st) A s H locs) (hi : inB i 24 = true) (hd : decode cc pc = .ok (.laload, 1)) (kk : W p l e R s m args below meth c H locs 0 0 Q (F0 m (pc + 1) ls (.long (st.2.2.2 0 i.toNatClampNeg) :: rest))) : W p l e R s m args below meth c H locs 0 0 Q (F0 m pc ls (.int i :: .ref (ad 10) :: rest)) :=
  va_lald F.1 F.2.1 K Z.1 10 2 rfl rfl (inB_vp hi) hd kk
theorem krX1_65_X1_hasVariable_F0 {n : Nat} {a0 : Int32} {q : (Int32 × StT)} (F : CallFix p m c cc nL s args (cw :: Gw) RX1) (K : va_K D vwCl (tyL cy) s) (E : EV ee A s s.heap) (hA : ∀ q, s.heap.size ≤ q → A q) (Z : ZG D (wC ad cy st) A s H locs) (hf : f_X1_hasVariable_F0 n st a0 = some q) (hR : 1 ≤ R.frames ∧ 21 ≤ R.locals) (hl : ls.size = nL) (hst : (rest.map fun v => v.category).sum ≤ 8) (hd : decode cc pc = .ok (.invokevirtual 65, 3)) (kk : ∀ (H1 : Heap) (locs1 : List Loc), ZG D (wC ad cy q.2) A s H1 locs1 → W p l e R s m args below meth c H1 locs1 0 0 Q (F0 m (pc + 3) ls (.int q.1 :: rest))) : W p l e R s m args below meth c H locs 0 0 Q (F0 m pc ls (.int a0 :: .ref (ad 4) :: rest)) :=
  call_V (q := (RX1, TX1, 9)) (n := 1) (As := [.int a0]) (rv := some (.int q.1)) 4 1 F K E hA Z (c_X1_hasVariable_F0 (l := l) (D := D) (ad := ad) (cy := cy) (ee := ee) hf) ⟨wd35, wd34, wd36, wd37, wd17⟩ (by decide +kernel) rfl rfl hR rfl hl hst hd kk
end
set_option maxRecDepth 100000 in
set_option maxHeartbeats 4000000 in
theorem c_X1_nameOf_F0 {l : Launch} {D : va_G} {ad : Nat → Nat} {cy : Nat → ClassId} {ee : EE} {n : Nat} {st : StT} {x1 : Int32} {res : (Int64 × StT)} (hf : f_X1_nameOf_F0 n st x1 = some res) : CT l yX1_nameOf cX1_nameOf 2 (some .long) 1 21 D cy ee (wC ad cy st) (wC ad cy res.2) [.ref (ad 4), .int x1] (some (.long res.1)) := by
  refine CT.of (by decide +kernel) (Nat.le_of_ble_eq_true rfl) ?_
  intro p e s m args below meth c A F hr hk K E hA Z ls hl
  have hl : lv_has ls 2 [(0, .ref (ad 4)), (1, .int x1)] := hl
  have hx := F.1
  have hb := F.2.1
  unfold f_X1_nameOf_F0 at hf
  refine lv_aload_n hx hb dX1_nameOf_0 rfl (lv_at hl 0 rfl) ?_
  refine lv_iload_n hx hb dX1_nameOf_1 rfl (lv_at hl 1 rfl) ?_
  obtain ⟨q2, h2, hf⟩ := bind_some hf
  refine krX1_65_X1_hasVariable_F0 F K E hA Z h2 ⟨Nat.le_of_ble_eq_true rfl, Nat.le_of_ble_eq_true rfl⟩ hl.1 (Nat.le_of_ble_eq_true rfl) dX1_nameOf_2 (fun H locs Z => ?_)
  refine lv_if_eq (tgt := 17) hx hb dX1_nameOf_5 (by decide) (fun c5 => ?_) (fun c5 => ?_)
  · have hf := if_t c5 hf
    refine lv_lconst (v := 0) hx hb dX1_nameOf_17 (by decide) ?_
    have hf := Option.some.inj hf
    subst hf
    exact ret_l F hr hk Z dX1_nameOf_18
  have hf := if_f c5 hf
  refine lv_aload_n hx hb dX1_nameOf_8 rfl (lv_at hl 0 rfl) ?_
  refine grX1_15_4 F K Z dX1_nameOf_9 ?_
  refine lv_iload_n hx hb dX1_nameOf_12 rfl (lv_at hl 1 rfl) ?_
  obtain ⟨i13, hf⟩ := if_some hf
  refine al10 F K Z i13 dX1_nameOf_13 ?_
  refine lv_goto (tgt := 18) hx hb dX1_nameOf_14 (by decide) ?_
  have hf := Option.some.inj hf
  subst hf
  exact ret_l F hr hk Z dX1_nameOf_18
def f_X1_named_F0_2 (n : Nat) : Nat → StT → Int64 → Int32 → Option (Int32 × StT)
  | 0, _, _, _ => none
  | k + 1, st, x1, x3 => if (st.1 7) ≤ x3 then (some ((-1 : Int32), st)) else (if (24 : Int32) ≤ x3 then (some ((-1 : Int32), st)) else (if inB x3 24 = true then (if (lg_cmp (st.2.2.2 0 (x3).toNatClampNeg) x1) = 0 then ((f_X1_find_F0 n st (2 : Int32) x3 (0 : Int32)).bind fun q31 => (some (q31.1, q31.2))) else (f_X1_named_F0_2 n k st x1 (x3 + (1 : Int32)))) else none))
def f_X1_named_F0 (n : Nat) (st : StT) (x1 : Int64) : Option (Int32 × StT) := f_X1_named_F0_2 n n st x1 (0 : Int32)
theorem wd38 : Cond.methodLink RX1 68 yX1_find ∈ Gw := gT3 (List.mem_of_getElem? (i := 120) rfl) rfl
theorem wd39 : Cond.code yX1_find prog_3_method_9_code 4 (some .int) ∈ Gw := gT3 (List.mem_of_getElem? (i := 123) rfl) rfl
theorem wd40 : Cond.instanceMethod yX1_find ∈ Gw := gT3 (List.mem_of_getElem? (i := 121) rfl) rfl
theorem wd41 : Cond.selects RX1 yX1_find yX1_find ∈ Gw := gT3 (List.mem_of_getElem? (i := 122) rfl) rfl
section
variable {p : Program} {l : Launch} {e : Env} {R : Room} {s : State} {m : MethodId} {args : Array Value} {below : List Frame} {meth : Method} {c : Code} {H : Heap} {locs : List Loc} {Q : State → Prop}
variable {cc : ByteArray} {nL pc : Nat} {ls : Array Slot} {rest : List Value} {D : va_G} {A : Nat → Prop} {cw : Cond} {ad : Nat → Nat} {cy : Nat → ClassId} {ee : EE} {st : StT} {own : String}
theorem krX1_68_X1_find_F0 {n : Nat} {a0 : Int32} {a1 : Int32} {a2 : Int32} {q : (Int32 × StT)} (F : CallFix p m c cc nL s args (cw :: Gw) RX1) (K : va_K D vwCl (tyL cy) s) (E : EV ee A s s.heap) (hA : ∀ q, s.heap.size ≤ q → A q) (Z : ZG D (wC ad cy st) A s H locs) (hf : f_X1_find_F0 n st a0 a1 a2 = some q) (hR : 2 ≤ R.frames ∧ 49 ≤ R.locals) (hl : ls.size = nL) (hst : (rest.map fun v => v.category).sum ≤ 8) (hd : decode cc pc = .ok (.invokevirtual 68, 3)) (kk : ∀ (H1 : Heap) (locs1 : List Loc), ZG D (wC ad cy q.2) A s H1 locs1 → W p l e R s m args below meth c H1 locs1 0 0 Q (F0 m (pc + 3) ls (.int q.1 :: rest))) : W p l e R s m args below meth c H locs 0 0 Q (F0 m pc ls (.int a2 :: .int a1 :: .int a0 :: .ref (ad 4) :: rest)) :=
  call_V (q := (RX1, TX1, 9)) (n := 3) (As := [.int a0, .int a1, .int a2]) (rv := some (.int q.1)) 4 1 F K E hA Z (c_X1_find_F0 (l := l) (D := D) (ad := ad) (cy := cy) (ee := ee) hf) ⟨wd39, wd38, wd40, wd41, wd17⟩ (by decide +kernel) rfl rfl hR rfl hl hst hd kk
end
set_option maxRecDepth 100000 in
set_option maxHeartbeats 4000000 in
theorem b_X1_named_F0_2 {p : Program} {l : Launch} {e : Env} {s : State} {m : MethodId} {args : Array Value} {below : List Frame} {meth : Method} {c : Code} {D : va_G} {A : Nat → Prop} {ad : Nat → Nat} {cy : Nat → ClassId} {ee : EE} {n : Nat} {res : (Int32 × StT)} (F : CallFix p m c cX1_named 4 s args (Cond.code yX1_named cX1_named 4 (some .int) :: Gw) yX1_named.cls) (hr : meth.sig.returnType = (some .int)) (hk : meth.locks = false) (K : va_K D vwCl (tyL cy) s) (E : EV ee A s s.heap) (hA : ∀ q, s.heap.size ≤ q → A q) : ∀ (k : Nat) (st : StT) (x1 : Int64) (x3 : Int32), f_X1_named_F0_2 n k st x1 x3 = some res → ∀ (H : Heap) (locs : List Loc) (ls : Array Slot), ZG D (wC ad cy st) A s H locs → lv_has ls 4 [(0, .ref (ad 4)), (1, .long x1), (3, .int x3)] → W p l e { frames := 2, cells := 0, slots := 0, locals := 49 } s m args below meth c H locs 0 0 (MQ below (QC D (some (.int res.1)) (wC ad cy res.2) A) args s 0 0 A) (F0 m 2 ls []) := by
  have hx := F.1
  have hb := F.2.1
  intro k
  induction k with
  | zero =>
    intro st x1 x3 hf
    exact absurd hf (by simp [f_X1_named_F0_2])
  | succ k ih =>
    intro st x1 x3 hf H locs ls Z hl
    rw [f_X1_named_F0_2] at hf
    refine lv_iload_n hx hb dX1_named_2 rfl (lv_at hl 2 rfl) ?_
    refine lv_aload_n hx hb dX1_named_3 rfl (lv_at hl 0 rfl) ?_
    refine grX1_48_4 F K Z dX1_named_4 ?_
    refine lv_icmp_ge (tgt := 41) hx hb dX1_named_7 (by decide) (fun c7 => ?_) (fun c7 => ?_)
    · have hf := if_t c7 hf
      refine lv_iconst (v := -1) hx hb dX1_named_41 (by decide) ?_
      have hf := Option.some.inj hf
      subst hf
      exact ret_i F hr hk Z dX1_named_42
    have hf := if_f c7 hf
    refine lv_iload_n hx hb dX1_named_10 rfl (lv_at hl 2 rfl) ?_
    refine lv_bipush (v := 24) hx hb dX1_named_11 (by decide) ?_
    refine lv_icmp_ge (tgt := 41) hx hb dX1_named_13 (by decide) (fun c13 => ?_) (fun c13 => ?_)
    · have hf := if_t c13 hf
      refine lv_iconst (v := -1) hx hb dX1_named_41 (by decide) ?_
      have hf := Option.some.inj hf
      subst hf
      exact ret_i F hr hk Z dX1_named_42
    have hf := if_f c13 hf
    refine lv_aload_n hx hb dX1_named_16 rfl (lv_at hl 0 rfl) ?_
    refine grX1_15_4 F K Z dX1_named_17 ?_
    refine lv_iload_n hx hb dX1_named_20 rfl (lv_at hl 2 rfl) ?_
    obtain ⟨i21, hf⟩ := if_some hf
    refine al10 F K Z i21 dX1_named_21 ?_
    refine lv_lload_n hx hb dX1_named_22 rfl (lv_at hl 1 rfl) ?_
    refine W.lcmp hx hb dX1_named_23 ?_
    refine lv_if_ne (tgt := 35) hx hb dX1_named_24 (by decide) (fun c24 => ?_) (fun c24 => ?_)
    · have hf := if_f c24 hf
      refine lv_iinc (v := (x3 + (1 : Int32))) (lv' := [(3, .int (x3 + (1 : Int32))), (0, .ref (ad 4)), (1, .long x1)]) hx hb dX1_named_35 hl (k := 2) rfl (congrArg (fun z => x3 + z) (by decide)) (by decide) rfl (fun ls hl => ?_)
      refine lv_goto (tgt := 2) hx hb dX1_named_38 (by decide) ?_
      exact ih _ _ _ hf _ _ _ Z (lv_sub hl [1, 2, 0] rfl)
    have hf := if_t c24 hf
    refine lv_aload_n hx hb dX1_named_27 rfl (lv_at hl 0 rfl) ?_
    refine lv_iconst (v := 2) hx hb dX1_named_28 (by decide) ?_
    refine lv_iload_n hx hb dX1_named_29 rfl (lv_at hl 2 rfl) ?_
    refine lv_iconst (v := 0) hx hb dX1_named_30 (by decide) ?_
    obtain ⟨q31, h31, hf⟩ := bind_some hf
    refine krX1_68_X1_find_F0 F K E hA Z h31 ⟨Nat.le_of_ble_eq_true rfl, Nat.le_of_ble_eq_true rfl⟩ hl.1 (Nat.le_of_ble_eq_true rfl) dX1_named_31 (fun H locs Z => ?_)
    have hf := Option.some.inj hf
    subst hf
    exact ret_i F hr hk Z dX1_named_34
set_option maxRecDepth 100000 in
set_option maxHeartbeats 4000000 in
theorem c_X1_named_F0 {l : Launch} {D : va_G} {ad : Nat → Nat} {cy : Nat → ClassId} {ee : EE} {n : Nat} {st : StT} {x1 : Int64} {res : (Int32 × StT)} (hf : f_X1_named_F0 n st x1 = some res) : CT l yX1_named cX1_named 4 (some .int) 2 49 D cy ee (wC ad cy st) (wC ad cy res.2) [.ref (ad 4), .long x1] (some (.int res.1)) := by
  refine CT.of (by decide +kernel) (Nat.le_of_ble_eq_true rfl) ?_
  intro p e s m args below meth c A F hr hk K E hA Z ls hl
  have hl : lv_has ls 4 [(0, .ref (ad 4)), (1, .long x1)] := hl
  have hx := F.1
  have hb := F.2.1
  unfold f_X1_named_F0 at hf
  refine lv_iconst (v := 0) hx hb dX1_named_0 (by decide) ?_
  refine lv_istore_n (lv' := [(3, .int (0 : Int32)), (0, .ref (ad 4)), (1, .long x1)]) hx hb dX1_named_1 rfl hl (by decide) rfl (fun ls hl => ?_)
  exact b_X1_named_F0_2 F hr hk K E hA _ _ _ _ hf _ _ _ Z (lv_sub hl [1, 2, 0] rfl)
def f_X1_hasRoomForVariable_F0 (n : Nat) (st : StT) : Option (Int32 × StT) := if (24 : Int32) ≤ (st.1 7) then (some ((0 : Int32), st)) else (some ((1 : Int32), st))
set_option maxRecDepth 100000 in
set_option maxHeartbeats 4000000 in
theorem c_X1_hasRoomForVariable_F0 {l : Launch} {D : va_G} {ad : Nat → Nat} {cy : Nat → ClassId} {ee : EE} {n : Nat} {st : StT} {res : (Int32 × StT)} (hf : f_X1_hasRoomForVariable_F0 n st = some res) : CT l yX1_hasRoomForVariable cX1_hasRoomForVariable 1 (some .boolean) 0 0 D cy ee (wC ad cy st) (wC ad cy res.2) [.ref (ad 4)] (some (.int res.1)) := by
  refine CT.of (by decide +kernel) (Nat.le_of_ble_eq_true rfl) ?_
  intro p e s m args below meth c A F hr hk K E hA Z ls hl
  have hl : lv_has ls 1 [(0, .ref (ad 4))] := hl
  have hx := F.1
  have hb := F.2.1
  unfold f_X1_hasRoomForVariable_F0 at hf
  refine lv_aload_n hx hb dX1_hasRoomForVariable_0 rfl (lv_at hl 0 rfl) ?_
  refine grX1_48_4 F K Z dX1_hasRoomForVariable_1 ?_
  refine lv_bipush (v := 24) hx hb dX1_hasRoomForVariable_4 (by decide) ?_
  refine lv_icmp_ge (tgt := 13) hx hb dX1_hasRoomForVariable_6 (by decide) (fun c6 => ?_) (fun c6 => ?_)
  · have hf := if_t c6 hf
    refine lv_iconst (v := 0) hx hb dX1_hasRoomForVariable_13 (by decide) ?_
    have hf := Option.some.inj hf
    subst hf
    exact ret_z F hr hk Z rfl dX1_hasRoomForVariable_14
  have hf := if_f c6 hf
  refine lv_iconst (v := 1) hx hb dX1_hasRoomForVariable_9 (by decide) ?_
  refine lv_goto (tgt := 14) hx hb dX1_hasRoomForVariable_10 (by decide) ?_
  have hf := Option.some.inj hf
  subst hf
  exact ret_z F hr hk Z rfl dX1_hasRoomForVariable_14
def f_X1_addNamed_F0 (n : Nat) (st : StT) (x1 : Int64) : Option (Int32 × StT) := if (st.1 7) < 0 then (some ((-1 : Int32), st)) else (if (st.1 7) < (24 : Int32) then ((f_X1_chainOf n st (2 : Int32) (st.1 7) (0 : Int32)).bind fun q25 => ((f_X1_addTo_F0 n q25.2 q25.1 (2 : Int32) (q25.2.1 7) (0 : Int32)).bind fun q34 => (if q34.1 < 0 then (some (q34.1, q34.2)) else (if inB (q34.2.1 7) 24 = true then (some (q34.1, (uF (uM q34.2 0 (q34.2.1 7) x1) 7 (((uM q34.2 0 (q34.2.1 7) x1).1 7) + (1 : Int32))))) else none)))) else (some ((-1 : Int32), st)))
section
variable {p : Program} {l : Launch} {e : Env} {R : Room} {s : State} {m : MethodId} {args : Array Value} {below : List Frame} {meth : Method} {c : Code} {H : Heap} {locs : List Loc} {Q : State → Prop}
variable {cc : ByteArray} {nL pc : Nat} {ls : Array Slot} {rest : List Value} {D : va_G} {A : Nat → Prop} {cw : Cond} {ad : Nat → Nat} {cy : Nat → ClassId} {ee : EE} {st : StT} {own : String}
theorem as10 {i : Int32} {v : Int64} (F : CallFix p m c cc nL s args (cw :: Gw) own) (K : va_K D vwCl (tyL cy) s) (Z : ZG D (wC ad cy st) A s H locs) (hi : inB i 24 = true) (hd : decode cc pc = .ok (.lastore, 1)) (kk : ∀ (H1 : Heap) (locs1 : List Loc), ZG D (wC ad cy (uM st 0 i v)) A s H1 locs1 → W p l e R s m args below meth c H1 locs1 0 0 Q (F0 m (pc + 1) ls rest)) : W p l e R s m args below meth c H locs 0 0 Q (F0 m pc ls (.long v :: .int i :: .ref (ad 10) :: rest)) :=
  va_last F.1 F.2.1 K Z.1 Z.2.1 Z.2.2 10 2 rfl rfl (inB_vp hi) hd (fun H1 locs1 hP hD hS => kk H1 locs1 ⟨hP, hD, hS⟩)
theorem prX1_48_4 {v : Int32} (F : CallFix p m c cc nL s args (cw :: Gw) RX1) (K : va_K D vwCl (tyL cy) s) (Z : ZG D (wC ad cy st) A s H locs) (hd : decode cc pc = .ok (.putfield 48, 3)) (kk : ∀ (H1 : Heap) (locs1 : List Loc), ZG D (wC ad cy (uF st 7 v)) A s H1 locs1 → W p l e R s m args below meth c H1 locs1 0 0 Q (F0 m (pc + 3) ls rest)) : W p l e R s m args below meth c H locs 0 0 Q (F0 m pc ls (.int v :: .ref (ad 4) :: rest)) :=
  va_put (D := D) (ci := 1) (v := .int v) (ty := .int) (C := RX1) (T := TX1) (N := 9) F.1 F.2.1 F.2.2.2.2 (fun w h => List.mem_cons_of_mem _ (inG_X1 w h)) tyX1 tyX1_ok nmX1 F.2.2.2.1 K Z.1 Z.2.1 Z.2.2 4 rfl rfl 8 (by decide) (F.2.2.2.2 _ (List.mem_cons_of_mem _ wd10)) (fun _ h => h) rfl (by decide +kernel) rfl rfl (Nat.le_of_ble_eq_true rfl) hd (fun H1 locs1 hP hD hS => kk H1 locs1 ⟨hP, hD, hS⟩)
end
set_option maxRecDepth 100000 in
set_option maxHeartbeats 4000000 in
theorem c_X1_addNamed_F0 {l : Launch} {D : va_G} {ad : Nat → Nat} {cy : Nat → ClassId} {ee : EE} {n : Nat} {st : StT} {x1 : Int64} {res : (Int32 × StT)} (hf : f_X1_addNamed_F0 n st x1 = some res) : CT l yX1_addNamed cX1_addNamed 4 (some .int) 1 26 D cy ee (wC ad cy st) (wC ad cy res.2) [.ref (ad 4), .long x1] (some (.int res.1)) := by
  refine CT.of (by decide +kernel) (Nat.le_of_ble_eq_true rfl) ?_
  intro p e s m args below meth c A F hr hk K E hA Z ls hl
  have hl : lv_has ls 4 [(0, .ref (ad 4)), (1, .long x1)] := hl
  have hx := F.1
  have hb := F.2.1
  unfold f_X1_addNamed_F0 at hf
  refine lv_aload_n hx hb dX1_addNamed_0 rfl (lv_at hl 0 rfl) ?_
  refine grX1_48_4 F K Z dX1_addNamed_1 ?_
  refine lv_if_lt (tgt := 16) hx hb dX1_addNamed_4 (by decide) (fun c4 => ?_) (fun c4 => ?_)
  · have hf := if_t c4 hf
    refine lv_iconst (v := -1) hx hb dX1_addNamed_16 (by decide) ?_
    have hf := Option.some.inj hf
    subst hf
    exact ret_i F hr hk Z dX1_addNamed_17
  have hf := if_f c4 hf
  refine lv_aload_n hx hb dX1_addNamed_7 rfl (lv_at hl 0 rfl) ?_
  refine grX1_48_4 F K Z dX1_addNamed_8 ?_
  refine lv_bipush (v := 24) hx hb dX1_addNamed_11 (by decide) ?_
  refine lv_icmp_lt (tgt := 18) hx hb dX1_addNamed_13 (by decide) (fun c13 => ?_) (fun c13 => ?_)
  · have hf := if_t c13 hf
    refine lv_aload_n hx hb dX1_addNamed_18 rfl (lv_at hl 0 rfl) ?_
    refine lv_iconst (v := 2) hx hb dX1_addNamed_19 (by decide) ?_
    refine lv_aload_n hx hb dX1_addNamed_20 rfl (lv_at hl 0 rfl) ?_
    refine grX1_48_4 F K Z dX1_addNamed_21 ?_
    refine lv_iconst (v := 0) hx hb dX1_addNamed_24 (by decide) ?_
    obtain ⟨q25, h25, hf⟩ := bind_some hf
    refine krX1_55_X1_chainOf F K E hA Z h25 ⟨Nat.le_of_ble_eq_true rfl, Nat.le_of_ble_eq_true rfl⟩ hl.1 (Nat.le_of_ble_eq_true rfl) dX1_addNamed_25 (fun H locs Z => ?_)
    refine lv_iconst (v := 2) hx hb dX1_addNamed_28 (by decide) ?_
    refine lv_aload_n hx hb dX1_addNamed_29 rfl (lv_at hl 0 rfl) ?_
    refine grX1_48_4 F K Z dX1_addNamed_30 ?_
    refine lv_iconst (v := 0) hx hb dX1_addNamed_33 (by decide) ?_
    obtain ⟨q34, h34, hf⟩ := bind_some hf
    refine krX1_62_X1_addTo_F0 F K E hA Z h34 ⟨Nat.le_of_ble_eq_true rfl, Nat.le_of_ble_eq_true rfl⟩ hl.1 (Nat.le_of_ble_eq_true rfl) dX1_addNamed_34 (fun H locs Z => ?_)
    refine lv_istore_n (lv' := [(3, .int q34.1), (0, .ref (ad 4)), (1, .long x1)]) hx hb dX1_addNamed_37 rfl hl (by decide) rfl (fun ls hl => ?_)
    refine lv_iload_n hx hb dX1_addNamed_38 rfl (lv_at hl 0 rfl) ?_
    refine lv_if_lt (tgt := 62) hx hb dX1_addNamed_39 (by decide) (fun c39 => ?_) (fun c39 => ?_)
    · have hf := if_t c39 hf
      refine lv_iload_n hx hb dX1_addNamed_62 rfl (lv_at hl 0 rfl) ?_
      have hf := Option.some.inj hf
      subst hf
      exact ret_i F hr hk Z dX1_addNamed_63
    have hf := if_f c39 hf
    refine lv_aload_n hx hb dX1_addNamed_42 rfl (lv_at hl 1 rfl) ?_
    refine grX1_15_4 F K Z dX1_addNamed_43 ?_
    refine lv_aload_n hx hb dX1_addNamed_46 rfl (lv_at hl 1 rfl) ?_
    refine grX1_48_4 F K Z dX1_addNamed_47 ?_
    refine lv_lload_n hx hb dX1_addNamed_50 rfl (lv_at hl 2 rfl) ?_
    obtain ⟨i51, hf⟩ := if_some hf
    refine as10 F K Z i51 dX1_addNamed_51 (fun H locs Z => ?_)
    refine lv_aload_n hx hb dX1_addNamed_52 rfl (lv_at hl 1 rfl) ?_
    refine lv_dup hx hb dX1_addNamed_53 rfl ?_
    refine grX1_48_4 F K Z dX1_addNamed_54 ?_
    refine lv_iconst (v := 1) hx hb dX1_addNamed_57 (by decide) ?_
    refine lv_iadd hx hb dX1_addNamed_58 ?_
    refine prX1_48_4 F K Z dX1_addNamed_59 (fun H locs Z => ?_)
    refine lv_iload_n hx hb dX1_addNamed_62 rfl (lv_at hl 0 rfl) ?_
    have hf := Option.some.inj hf
    subst hf
    exact ret_i F hr hk Z dX1_addNamed_63
  have hf := if_f c13 hf
  refine lv_iconst (v := -1) hx hb dX1_addNamed_16 (by decide) ?_
  have hf := Option.some.inj hf
  subst hf
  exact ret_i F hr hk Z dX1_addNamed_17
