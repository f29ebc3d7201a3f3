def f_X6_isRow (n : Nat) (st : StT) (x0 : Int32) : Option (Int32 × StT) := if x0 < 0 then (some ((0 : Int32), st)) else (if (201 : Int32) ≤ x0 then (some ((0 : Int32), st)) else (some ((1 : Int32), st)))
set_option maxRecDepth 100000 in
set_option maxHeartbeats 4000000 in
theorem c_X6_isRow {l : Launch} {D : va_G} {ad : Nat → Nat} {cy : Nat → ClassId} {ee : EE} {n : Nat} {st : StT} {x0 : Int32} {res : (Int32 × StT)} (hf : f_X6_isRow n st x0 = some res) : CT l yX6_isRow cX6_isRow 1 (some .boolean) 0 0 D cy ee (wC ad cy st) (wC ad cy res.2) [.int x0] (some (.int res.1)) := by
  refine CT.of (by decide +kernel) (Nat.le_of_ble_eq_true rfl) ?_
  intro p e s m args below meth c A F hr hk K E hA Z ls hl
  have hl : lv_has ls 1 [(0, .int x0)] := hl
  have hx := F.1
  have hb := F.2.1
  unfold f_X6_isRow at hf
  refine lv_iload_n hx hb dX6_isRow_0 rfl (lv_at hl 0 rfl) ?_
  refine lv_if_lt (tgt := 15) hx hb dX6_isRow_1 (by decide) (fun c1 => ?_) (fun c1 => ?_)
  · have hf := if_t c1 hf
    refine lv_iconst (v := 0) hx hb dX6_isRow_15 (by decide) ?_
    have hf := Option.some.inj hf
    subst hf
    exact ret_z F hr hk Z rfl dX6_isRow_16
  have hf := if_f c1 hf
  refine lv_iload_n hx hb dX6_isRow_4 rfl (lv_at hl 0 rfl) ?_
  refine lv_sipush (v := 201) hx hb dX6_isRow_5 (by decide) ?_
  refine lv_icmp_ge (tgt := 15) hx hb dX6_isRow_8 (by decide) (fun c8 => ?_) (fun c8 => ?_)
  · have hf := if_t c8 hf
    refine lv_iconst (v := 0) hx hb dX6_isRow_15 (by decide) ?_
    have hf := Option.some.inj hf
    subst hf
    exact ret_z F hr hk Z rfl dX6_isRow_16
  have hf := if_f c8 hf
  refine lv_iconst (v := 1) hx hb dX6_isRow_11 (by decide) ?_
  refine lv_goto (tgt := 16) hx hb dX6_isRow_12 (by decide) ?_
  have hf := Option.some.inj hf
  subst hf
  exact ret_z F hr hk Z rfl dX6_isRow_16
def f_X6_isAt (n : Nat) (st : StT) (x1 : Int32) (x2 : Int32) : Option (Int32 × StT) := if x1 < 0 then (some ((0 : Int32), st)) else (if (201 : Int32) ≤ x1 then (some ((0 : Int32), st)) else (if x2 < 0 then (some ((0 : Int32), st)) else (if inB x1 201 = true then (if (st.2.1 23 (x1).toNatClampNeg) ≤ x2 then (some ((0 : Int32), st)) else (if (60 : Int32) ≤ x2 then (some ((0 : Int32), st)) else (some ((1 : Int32), st)))) else none)))
theorem wd69 : Cond.laysFinal RX6 "WorldProver$Sequents" "formulas" "[I" ∈ Gw := gT1 (List.mem_of_getElem? (i := 224) rfl) rfl
theorem wd70 : Cond.laysFinal RX6 "WorldProver$Sequents" "termsOf" "[I" ∈ Gw := gT1 (List.mem_of_getElem? (i := 226) rfl) rfl
theorem wd71 : Cond.laysFinal RX6 "WorldProver$Sequents" "sizes" "[I" ∈ Gw := gT1 (List.mem_of_getElem? (i := 228) rfl) rfl
theorem wd72 : Cond.laysFinal RX6 "WorldProver$Sequents" "goals" "[I" ∈ Gw := gT1 (List.mem_of_getElem? (i := 230) rfl) rfl
theorem wd73 : Cond.lays RX6 "WorldProver$Sequents" "most" "I" ∈ Gw := gT1 (List.mem_of_getElem? (i := 232) rfl) rfl
theorem wd74 : Cond.fieldLink RX6 18 "WorldProver$Sequents" "sizes" "[I" ∈ Gw := gT1 (List.mem_of_getElem? (i := 220) rfl) rfl
theorem inG_X6 : ∀ w ∈ u_ws RX6 TX6 5, w ∈ Gw := by
  intro w h
  obtain ⟨k, hk, rfl⟩ := List.mem_map.mp h
  have hk := List.mem_range.mp hk
  by_cases h0 : k = 0
  · subst h0; exact wd69
  by_cases h1 : k = 1
  · subst h1; exact wd70
  by_cases h2 : k = 2
  · subst h2; exact wd71
  by_cases h3 : k = 3
  · subst h3; exact wd72
  by_cases h4 : k = 4
  · subst h4; exact wd73
  omega
section
variable {p : Program} {l : Launch} {e : Env} {R : Room} {s : State} {m : MethodId} {args : Array Value} {below : List Frame} {meth : Method} {c : Code} {H : Heap} {locs : List Loc} {Q : State → Prop}
variable {cc : ByteArray} {nL pc : Nat} {ls : Array Slot} {rest : List Value} {D : va_G} {A : Nat → Prop} {cw : Cond} {ad : Nat → Nat} {cy : Nat → ClassId} {ee : EE} {st : StT} {own : String}
theorem grX6_18_30 (F : CallFix p m c cc nL s args (cw :: Gw) RX6) (K : va_K D vwCl (tyL cy) s) (Z : ZG D (wC ad cy st) A s H locs) (hd : decode cc pc = .ok (.getfield 18, 3)) (kk : W p l e R s m args below meth c H locs 0 0 Q (F0 m (pc + 3) ls (.ref (ad 33) :: rest))) : W p l e R s m args below meth c H locs 0 0 Q (F0 m pc ls (.ref (ad 30) :: rest)) :=
  va_get (D := D) (ci := 6) (C := RX6) (T := TX6) (N := 5) F.1 F.2.1 F.2.2.2.2 (fun w h => List.mem_cons_of_mem _ (inG_X6 w h)) F.2.2.2.1 K Z.1 30 rfl rfl 2 (by decide) (F.2.2.2.2 _ (List.mem_cons_of_mem _ wd74)) (fun _ h => h) rfl hd kk
theorem al33 {i : Int32} (F : CallFix p m c cc nL s args (cw :: Gw) own) (K : va_K D vwCl (tyL cy) s) (Z : ZG D (wC ad cy st) A s H locs) (hi : inB i 201 = true) (hd : decode cc pc = .ok (.iaload, 1)) (kk : W p l e R s m args below meth c H locs 0 0 Q (F0 m (pc + 1) ls (.int (st.2.1 23 i.toNatClampNeg) :: rest))) : W p l e R s m args below meth c H locs 0 0 Q (F0 m pc ls (.int i :: .ref (ad 33) :: rest)) :=
  va_iald F.1 F.2.1 K Z.1 33 1 rfl rfl (inB_vp hi) hd kk
end
set_option maxRecDepth 100000 in
set_option maxHeartbeats 4000000 in
theorem c_X6_isAt {l : Launch} {D : va_G} {ad : Nat → Nat} {cy : Nat → ClassId} {ee : EE} {n : Nat} {st : StT} {x1 : Int32} {x2 : Int32} {res : (Int32 × StT)} (hf : f_X6_isAt n st x1 x2 = some res) : CT l yX6_isAt cX6_isAt 3 (some .boolean) 0 0 D cy ee (wC ad cy st) (wC ad cy res.2) [.ref (ad 30), .int x1, .int x2] (some (.int res.1)) := by
  refine CT.of (by decide +kernel) (Nat.le_of_ble_eq_true rfl) ?_
  intro p e s m args below meth c A F hr hk K E hA Z ls hl
  have hl : lv_has ls 3 [(0, .ref (ad 30)), (1, .int x1), (2, .int x2)] := hl
  have hx := F.1
  have hb := F.2.1
  unfold f_X6_isAt at hf
  refine lv_iload_n hx hb dX6_isAt_0 rfl (lv_at hl 1 rfl) ?_
  refine lv_if_lt (tgt := 35) hx hb dX6_isAt_1 (by decide) (fun c1 => ?_) (fun c1 => ?_)
  · have hf := if_t c1 hf
    refine lv_iconst (v := 0) hx hb dX6_isAt_35 (by decide) ?_
    have hf := Option.some.inj hf
    subst hf
    exact ret_z F hr hk Z rfl dX6_isAt_36
  have hf := if_f c1 hf
  refine lv_iload_n hx hb dX6_isAt_4 rfl (lv_at hl 1 rfl) ?_
  refine lv_sipush (v := 201) hx hb dX6_isAt_5 (by decide) ?_
  refine lv_icmp_ge (tgt := 35) hx hb dX6_isAt_8 (by decide) (fun c8 => ?_) (fun c8 => ?_)
  · have hf := if_t c8 hf
    refine lv_iconst (v := 0) hx hb dX6_isAt_35 (by decide) ?_
    have hf := Option.some.inj hf
    subst hf
    exact ret_z F hr hk Z rfl dX6_isAt_36
  have hf := if_f c8 hf
  refine lv_iload_n hx hb dX6_isAt_11 rfl (lv_at hl 2 rfl) ?_
  refine lv_if_lt (tgt := 35) hx hb dX6_isAt_12 (by decide) (fun c12 => ?_) (fun c12 => ?_)
  · have hf := if_t c12 hf
    refine lv_iconst (v := 0) hx hb dX6_isAt_35 (by decide) ?_
    have hf := Option.some.inj hf
    subst hf
    exact ret_z F hr hk Z rfl dX6_isAt_36
  have hf := if_f c12 hf
  refine lv_iload_n hx hb dX6_isAt_15 rfl (lv_at hl 2 rfl) ?_
  refine lv_aload_n hx hb dX6_isAt_16 rfl (lv_at hl 0 rfl) ?_
  refine grX6_18_30 F K Z dX6_isAt_17 ?_
  refine lv_iload_n hx hb dX6_isAt_20 rfl (lv_at hl 1 rfl) ?_
  obtain ⟨i21, hf⟩ := if_some hf
  refine al33 F K Z i21 dX6_isAt_21 ?_
  refine lv_icmp_ge (tgt := 35) hx hb dX6_isAt_22 (by decide) (fun c22 => ?_) (fun c22 => ?_)
  · have hf := if_t c22 hf
    refine lv_iconst (v := 0) hx hb dX6_isAt_35 (by decide) ?_
    have hf := Option.some.inj hf
    subst hf
    exact ret_z F hr hk Z rfl dX6_isAt_36
  have hf := if_f c22 hf
  refine lv_iload_n hx hb dX6_isAt_25 rfl (lv_at hl 2 rfl) ?_
  refine lv_bipush (v := 60) hx hb dX6_isAt_26 (by decide) ?_
  refine lv_icmp_ge (tgt := 35) hx hb dX6_isAt_28 (by decide) (fun c28 => ?_) (fun c28 => ?_)
  · have hf := if_t c28 hf
    refine lv_iconst (v := 0) hx hb dX6_isAt_35 (by decide) ?_
    have hf := Option.some.inj hf
    subst hf
    exact ret_z F hr hk Z rfl dX6_isAt_36
  have hf := if_f c28 hf
  refine lv_iconst (v := 1) hx hb dX6_isAt_31 (by decide) ?_
  refine lv_goto (tgt := 36) hx hb dX6_isAt_32 (by decide) ?_
  have hf := Option.some.inj hf
  subst hf
  exact ret_z F hr hk Z rfl dX6_isAt_36
def f_X6_sizeOf (n : Nat) (st : StT) (x1 : Int32) : Option (Int32 × StT) := (f_X6_isRow n st x1).bind fun q1 => (if q1.1 = 0 then (some ((0 : Int32), q1.2)) else (if inB x1 201 = true then (some ((q1.2.2.1 23 (x1).toNatClampNeg), q1.2)) else none))
theorem wd75 : Cond.methodLink RX6 24 yX6_isRow ∈ Gw := gT4 (List.mem_of_getElem? (i := 87) rfl) rfl
theorem wd76 : Cond.code yX6_isRow prog_8_method_2_code 1 (some .boolean) ∈ Gw := gT4 (List.mem_of_getElem? (i := 89) rfl) rfl
theorem wd77 : Cond.static yX6_isRow ∈ Gw := gT4 (List.mem_of_getElem? (i := 88) rfl) rfl
theorem wd78 : Cond.initialized RX6 ∈ Gw := gT1 (List.mem_of_getElem? (i := 9) rfl) rfl
section
variable {p : Program} {l : Launch} {e : Env} {R : Room} {s : State} {m : MethodId} {args : Array Value} {below : List Frame} {meth : Method} {c : Code} {H : Heap} {locs : List Loc} {Q : State → Prop}
variable {cc : ByteArray} {nL pc : Nat} {ls : Array Slot} {rest : List Value} {D : va_G} {A : Nat → Prop} {cw : Cond} {ad : Nat → Nat} {cy : Nat → ClassId} {ee : EE} {st : StT} {own : String}
theorem krX6_24_X6_isRow {n : Nat} {a0 : Int32} {q : (Int32 × StT)} (F : CallFix p m c cc nL s args (cw :: Gw) RX6) (K : va_K D vwCl (tyL cy) s) (E : EV ee A s s.heap) (hA : ∀ q, s.heap.size ≤ q → A q) (Z : ZG D (wC ad cy st) A s H locs) (hf : f_X6_isRow n st a0 = some q) (hR : 1 ≤ R.frames ∧ 20 ≤ R.locals) (hl : ls.size = nL) (hst : (rest.map fun v => v.category).sum ≤ 8) (hd : decode cc pc = .ok (.invokestatic 24, 3)) (kk : ∀ (H1 : Heap) (locs1 : List Loc), ZG D (wC ad cy q.2) A s H1 locs1 → W p l e R s m args below meth c H1 locs1 0 0 Q (F0 m (pc + 3) ls (.int q.1 :: rest))) : W p l e R s m args below meth c H locs 0 0 Q (F0 m pc ls (.int a0 :: rest)) :=
  call_S (n := 1) (As := [.int a0]) (rv := some (.int q.1)) F K E hA Z (c_X6_isRow (l := l) (D := D) (ad := ad) (cy := cy) (ee := ee) hf) ⟨wd76, wd75, wd77, wd78⟩ (by decide +kernel) hR rfl hl hst hd kk
end
set_option maxRecDepth 100000 in
set_option maxHeartbeats 4000000 in
theorem c_X6_sizeOf {l : Launch} {D : va_G} {ad : Nat → Nat} {cy : Nat → ClassId} {ee : EE} {n : Nat} {st : StT} {x1 : Int32} {res : (Int32 × StT)} (hf : f_X6_sizeOf n st x1 = some res) : CT l yX6_sizeOf cX6_sizeOf 2 (some .int) 1 20 D cy ee (wC ad cy st) (wC ad cy res.2) [.ref (ad 30), .int x1] (some (.int res.1)) := by
  refine CT.of (by decide +kernel) (Nat.le_of_ble_eq_true rfl) ?_
  intro p e s m args below meth c A F hr hk K E hA Z ls hl
  have hl : lv_has ls 2 [(0, .ref (ad 30)), (1, .int x1)] := hl
  have hx := F.1
  have hb := F.2.1
  unfold f_X6_sizeOf at hf
  refine lv_iload_n hx hb dX6_sizeOf_0 rfl (lv_at hl 1 rfl) ?_
  obtain ⟨q1, h1, hf⟩ := bind_some hf
  refine krX6_24_X6_isRow F K E hA Z h1 ⟨Nat.le_of_ble_eq_true rfl, Nat.le_of_ble_eq_true rfl⟩ hl.1 (Nat.le_of_ble_eq_true rfl) dX6_sizeOf_1 (fun H locs Z => ?_)
  refine lv_if_eq (tgt := 16) hx hb dX6_sizeOf_4 (by decide) (fun c4 => ?_) (fun c4 => ?_)
  · have hf := if_t c4 hf
    refine lv_iconst (v := 0) hx hb dX6_sizeOf_16 (by decide) ?_
    have hf := Option.some.inj hf
    subst hf
    exact ret_i F hr hk Z dX6_sizeOf_17
  have hf := if_f c4 hf
  refine lv_aload_n hx hb dX6_sizeOf_7 rfl (lv_at hl 0 rfl) ?_
  refine grX6_18_30 F K Z dX6_sizeOf_8 ?_
  refine lv_iload_n hx hb dX6_sizeOf_11 rfl (lv_at hl 1 rfl) ?_
  obtain ⟨i12, hf⟩ := if_some hf
  refine al33 F K Z i12 dX6_sizeOf_12 ?_
  refine lv_goto (tgt := 17) hx hb dX6_sizeOf_13 (by decide) ?_
  have hf := Option.some.inj hf
  subst hf
  exact ret_i F hr hk Z dX6_sizeOf_17
def f_X6_goalOf (n : Nat) (st : StT) (x1 : Int32) : Option (Int32 × StT) := (f_X6_isRow n st x1).bind fun q1 => (if q1.1 = 0 then (some ((-1 : Int32), q1.2)) else (if inB x1 201 = true then (some ((q1.2.2.1 24 (x1).toNatClampNeg), q1.2)) else none))
theorem wd79 : Cond.fieldLink RX6 21 "WorldProver$Sequents" "goals" "[I" ∈ Gw := gT1 (List.mem_of_getElem? (i := 221) rfl) rfl
section
variable {p : Program} {l : Launch} {e : Env} {R : Room} {s : State} {m : MethodId} {args : Array Value} {below : List Frame} {meth : Method} {c : Code} {H : Heap} {locs : List Loc} {Q : State → Prop}
variable {cc : ByteArray} {nL pc : Nat} {ls : Array Slot} {rest : List Value} {D : va_G} {A : Nat → Prop} {cw : Cond} {ad : Nat → Nat} {cy : Nat → ClassId} {ee : EE} {st : StT} {own : String}
theorem grX6_21_30 (F : CallFix p m c cc nL s args (cw :: Gw) RX6) (K : va_K D vwCl (tyL cy) s) (Z : ZG D (wC ad cy st) A s H locs) (hd : decode cc pc = .ok (.getfield 21, 3)) (kk : W p l e R s m args below meth c H locs 0 0 Q (F0 m (pc + 3) ls (.ref (ad 34) :: rest))) : W p l e R s m args below meth c H locs 0 0 Q (F0 m pc ls (.ref (ad 30) :: rest)) :=
  va_get (D := D) (ci := 6) (C := RX6) (T := TX6) (N := 5) F.1 F.2.1 F.2.2.2.2 (fun w h => List.mem_cons_of_mem _ (inG_X6 w h)) F.2.2.2.1 K Z.1 30 rfl rfl 3 (by decide) (F.2.2.2.2 _ (List.mem_cons_of_mem _ wd79)) (fun _ h => h) rfl hd kk
theorem al34 {i : Int32} (F : CallFix p m c cc nL s args (cw :: Gw) own) (K : va_K D vwCl (tyL cy) s) (Z : ZG D (wC ad cy st) A s H locs) (hi : inB i 201 = true) (hd : decode cc pc = .ok (.iaload, 1)) (kk : W p l e R s m args below meth c H locs 0 0 Q (F0 m (pc + 1) ls (.int (st.2.1 24 i.toNatClampNeg) :: rest))) : W p l e R s m args below meth c H locs 0 0 Q (F0 m pc ls (.int i :: .ref (ad 34) :: rest)) :=
  va_iald F.1 F.2.1 K Z.1 34 1 rfl rfl (inB_vp hi) hd kk
end
set_option maxRecDepth 100000 in
set_option maxHeartbeats 4000000 in
theorem c_X6_goalOf {l : Launch} {D : va_G} {ad : Nat → Nat} {cy : Nat → ClassId} {ee : EE} {n : Nat} {st : StT} {x1 : Int32} {res : (Int32 × StT)} (hf : f_X6_goalOf n st x1 = some res) : CT l yX6_goalOf cX6_goalOf 2 (some .int) 1 20 D cy ee (wC ad cy st) (wC ad cy res.2) [.ref (ad 30), .int x1] (some (.int res.1)) := by
  refine CT.of (by decide +kernel) (Nat.le_of_ble_eq_true rfl) ?_
  intro p e s m args below meth c A F hr hk K E hA Z ls hl
  have hl : lv_has ls 2 [(0, .ref (ad 30)), (1, .int x1)] := hl
  have hx := F.1
  have hb := F.2.1
  unfold f_X6_goalOf at hf
  refine lv_iload_n hx hb dX6_goalOf_0 rfl (lv_at hl 1 rfl) ?_
  obtain ⟨q1, h1, hf⟩ := bind_some hf
  refine krX6_24_X6_isRow F K E hA Z h1 ⟨Nat.le_of_ble_eq_true rfl, Nat.le_of_ble_eq_true rfl⟩ hl.1 (Nat.le_of_ble_eq_true rfl) dX6_goalOf_1 (fun H locs Z => ?_)
  refine lv_if_eq (tgt := 16) hx hb dX6_goalOf_4 (by decide) (fun c4 => ?_) (fun c4 => ?_)
  · have hf := if_t c4 hf
    refine lv_iconst (v := -1) hx hb dX6_goalOf_16 (by decide) ?_
    have hf := Option.some.inj hf
    subst hf
    exact ret_i F hr hk Z dX6_goalOf_17
  have hf := if_f c4 hf
  refine lv_aload_n hx hb dX6_goalOf_7 rfl (lv_at hl 0 rfl) ?_
  refine grX6_21_30 F K Z dX6_goalOf_8 ?_
  refine lv_iload_n hx hb dX6_goalOf_11 rfl (lv_at hl 1 rfl) ?_
  obtain ⟨i12, hf⟩ := if_some hf
  refine al34 F K Z i12 dX6_goalOf_12 ?_
  refine lv_goto (tgt := 17) hx hb dX6_goalOf_13 (by decide) ?_
  have hf := Option.some.inj hf
  subst hf
  exact ret_i F hr hk Z dX6_goalOf_17
def f_X6_formulaAt (n : Nat) (st : StT) (x1 : Int32) (x2 : Int32) : Option (Int32 × StT) := (f_X6_isAt n st x1 x2).bind fun q3 => (if q3.1 = 0 then (some ((-1 : Int32), q3.2)) else (if inB ((x1 * (60 : Int32)) + x2) 12060 = true then (some ((q3.2.2.1 21 (((x1 * (60 : Int32)) + x2)).toNatClampNeg), q3.2)) else none))
theorem wd80 : Cond.fieldLink RX6 11 "WorldProver$Sequents" "formulas" "[I" ∈ Gw := gT1 (List.mem_of_getElem? (i := 218) rfl) rfl
theorem wd81 : Cond.methodLink RX6 28 yX6_isAt ∈ Gw := gT4 (List.mem_of_getElem? (i := 109) rfl) rfl
theorem wd82 : Cond.code yX6_isAt prog_8_method_3_code 3 (some .boolean) ∈ Gw := gT4 (List.mem_of_getElem? (i := 112) rfl) rfl
theorem wd83 : Cond.instanceMethod yX6_isAt ∈ Gw := gT4 (List.mem_of_getElem? (i := 111) rfl) rfl
theorem wd84 : Cond.selects RX6 yX6_isAt yX6_isAt ∈ Gw := gP2 (q := (yX6_isAt, 5)) (List.mem_of_getElem? (i := 11) rfl)
section
variable {p : Program} {l : Launch} {e : Env} {R : Room} {s : State} {m : MethodId} {args : Array Value} {below : List Frame} {meth : Method} {c : Code} {H : Heap} {locs : List Loc} {Q : State → Prop}
variable {cc : ByteArray} {nL pc : Nat} {ls : Array Slot} {rest : List Value} {D : va_G} {A : Nat → Prop} {cw : Cond} {ad : Nat → Nat} {cy : Nat → ClassId} {ee : EE} {st : StT} {own : String}
theorem grX6_11_30 (F : CallFix p m c cc nL s args (cw :: Gw) RX6) (K : va_K D vwCl (tyL cy) s) (Z : ZG D (wC ad cy st) A s H locs) (hd : decode cc pc = .ok (.getfield 11, 3)) (kk : W p l e R s m args below meth c H locs 0 0 Q (F0 m (pc + 3) ls (.ref (ad 31) :: rest))) : W p l e R s m args below meth c H locs 0 0 Q (F0 m pc ls (.ref (ad 30) :: rest)) :=
  va_get (D := D) (ci := 6) (C := RX6) (T := TX6) (N := 5) F.1 F.2.1 F.2.2.2.2 (fun w h => List.mem_cons_of_mem _ (inG_X6 w h)) F.2.2.2.1 K Z.1 30 rfl rfl 0 (by decide) (F.2.2.2.2 _ (List.mem_cons_of_mem _ wd80)) (fun _ h => h) rfl hd kk
theorem al31 {i : Int32} (F : CallFix p m c cc nL s args (cw :: Gw) own) (K : va_K D vwCl (tyL cy) s) (Z : ZG D (wC ad cy st) A s H locs) (hi : inB i 12060 = true) (hd : decode cc pc = .ok (.iaload, 1)) (kk : W p l e R s m args below meth c H locs 0 0 Q (F0 m (pc + 1) ls (.int (st.2.1 21 i.toNatClampNeg) :: rest))) : W p l e R s m args below meth c H locs 0 0 Q (F0 m pc ls (.int i :: .ref (ad 31) :: rest)) :=
  va_iald F.1 F.2.1 K Z.1 31 1 rfl rfl (inB_vp hi) hd kk
theorem krX6_28_X6_isAt {n : Nat} {a0 : Int32} {a1 : Int32} {q : (Int32 × StT)} (F : CallFix p m c cc nL s args (cw :: Gw) RX6) (K : va_K D vwCl (tyL cy) s) (E : EV ee A s s.heap) (hA : ∀ q, s.heap.size ≤ q → A q) (Z : ZG D (wC ad cy st) A s H locs) (hf : f_X6_isAt n st a0 a1 = some q) (hR : 1 ≤ R.frames ∧ 22 ≤ R.locals) (hl : ls.size = nL) (hst : (rest.map fun v => v.category).sum ≤ 8) (hd : decode cc pc = .ok (.invokevirtual 28, 3)) (kk : ∀ (H1 : Heap) (locs1 : List Loc), ZG D (wC ad cy q.2) A s H1 locs1 → W p l e R s m args below meth c H1 locs1 0 0 Q (F0 m (pc + 3) ls (.int q.1 :: rest))) : W p l e R s m args below meth c H locs 0 0 Q (F0 m pc ls (.int a1 :: .int a0 :: .ref (ad 30) :: rest)) :=
  call_V (q := (RX6, TX6, 5)) (n := 2) (As := [.int a0, .int a1]) (rv := some (.int q.1)) 30 6 F K E hA Z (c_X6_isAt (l := l) (D := D) (ad := ad) (cy := cy) (ee := ee) hf) ⟨wd82, wd81, wd83, wd84, wd78⟩ (by decide +kernel) rfl rfl hR rfl hl hst hd kk
end
set_option maxRecDepth 100000 in
set_option maxHeartbeats 4000000 in
theorem c_X6_formulaAt {l : Launch} {D : va_G} {ad : Nat → Nat} {cy : Nat → ClassId} {ee : EE} {n : Nat} {st : StT} {x1 : Int32} {x2 : Int32} {res : (Int32 × StT)} (hf : f_X6_formulaAt n st x1 x2 = some res) : CT l yX6_formulaAt cX6_formulaAt 3 (some .int) 1 22 D cy ee (wC ad cy st) (wC ad cy res.2) [.ref (ad 30), .int x1, .int x2] (some (.int res.1)) := by
  refine CT.of (by decide +kernel) (Nat.le_of_ble_eq_true rfl) ?_
  intro p e s m args below meth c A F hr hk K E hA Z ls hl
  have hl : lv_has ls 3 [(0, .ref (ad 30)), (1, .int x1), (2, .int x2)] := hl
  have hx := F.1
  have hb := F.2.1
  unfold f_X6_formulaAt at hf
  refine lv_aload_n hx hb dX6_formulaAt_0 rfl (lv_at hl 0 rfl) ?_
  refine lv_iload_n hx hb dX6_formulaAt_1 rfl (lv_at hl 1 rfl) ?_
  refine lv_iload_n hx hb dX6_formulaAt_2 rfl (lv_at hl 2 rfl) ?_
  obtain ⟨q3, h3, hf⟩ := bind_some hf
  refine krX6_28_X6_isAt F K E hA Z h3 ⟨Nat.le_of_ble_eq_true rfl, Nat.le_of_ble_eq_true rfl⟩ hl.1 (Nat.le_of_ble_eq_true rfl) dX6_formulaAt_3 (fun H locs Z => ?_)
  refine lv_if_eq (tgt := 23) hx hb dX6_formulaAt_6 (by decide) (fun c6 => ?_) (fun c6 => ?_)
  · have hf := if_t c6 hf
    refine lv_iconst (v := -1) hx hb dX6_formulaAt_23 (by decide) ?_
    have hf := Option.some.inj hf
    subst hf
    exact ret_i F hr hk Z dX6_formulaAt_24
  have hf := if_f c6 hf
  refine lv_aload_n hx hb dX6_formulaAt_9 rfl (lv_at hl 0 rfl) ?_
  refine grX6_11_30 F K Z dX6_formulaAt_10 ?_
  refine lv_iload_n hx hb dX6_formulaAt_13 rfl (lv_at hl 1 rfl) ?_
  refine lv_bipush (v := 60) hx hb dX6_formulaAt_14 (by decide) ?_
  refine lv_imul hx hb dX6_formulaAt_16 ?_
  refine lv_iload_n hx hb dX6_formulaAt_17 rfl (lv_at hl 2 rfl) ?_
  refine lv_iadd hx hb dX6_formulaAt_18 ?_
  obtain ⟨i19, hf⟩ := if_some hf
  refine al31 F K Z i19 dX6_formulaAt_19 ?_
  refine lv_goto (tgt := 24) hx hb dX6_formulaAt_20 (by decide) ?_
  have hf := Option.some.inj hf
  subst hf
  exact ret_i F hr hk Z dX6_formulaAt_24
def f_X6_termAt (n : Nat) (st : StT) (x1 : Int32) (x2 : Int32) : Option (Int32 × StT) := (f_X6_isAt n st x1 x2).bind fun q3 => (if q3.1 = 0 then (some ((-1 : Int32), q3.2)) else (if inB ((x1 * (60 : Int32)) + x2) 12060 = true then (some ((q3.2.2.1 22 (((x1 * (60 : Int32)) + x2)).toNatClampNeg), q3.2)) else none))
theorem wd85 : Cond.fieldLink RX6 15 "WorldProver$Sequents" "termsOf" "[I" ∈ Gw := gT1 (List.mem_of_getElem? (i := 219) rfl) rfl
section
variable {p : Program} {l : Launch} {e : Env} {R : Room} {s : State} {m : MethodId} {args : Array Value} {below : List Frame} {meth : Method} {c : Code} {H : Heap} {locs : List Loc} {Q : State → Prop}
variable {cc : ByteArray} {nL pc : Nat} {ls : Array Slot} {rest : List Value} {D : va_G} {A : Nat → Prop} {cw : Cond} {ad : Nat → Nat} {cy : Nat → ClassId} {ee : EE} {st : StT} {own : String}
theorem grX6_15_30 (F : CallFix p m c cc nL s args (cw :: Gw) RX6) (K : va_K D vwCl (tyL cy) s) (Z : ZG D (wC ad cy st) A s H locs) (hd : decode cc pc = .ok (.getfield 15, 3)) (kk : W p l e R s m args below meth c H locs 0 0 Q (F0 m (pc + 3) ls (.ref (ad 32) :: rest))) : W p l e R s m args below meth c H locs 0 0 Q (F0 m pc ls (.ref (ad 30) :: rest)) :=
  va_get (D := D) (ci := 6) (C := RX6) (T := TX6) (N := 5) F.1 F.2.1 F.2.2.2.2 (fun w h => List.mem_cons_of_mem _ (inG_X6 w h)) F.2.2.2.1 K Z.1 30 rfl rfl 1 (by decide) (F.2.2.2.2 _ (List.mem_cons_of_mem _ wd85)) (fun _ h => h) rfl hd kk
theorem al32 {i : Int32} (F : CallFix p m c cc nL s args (cw :: Gw) own) (K : va_K D vwCl (tyL cy) s) (Z : ZG D (wC ad cy st) A s H locs) (hi : inB i 12060 = true) (hd : decode cc pc = .ok (.iaload, 1)) (kk : W p l e R s m args below meth c H locs 0 0 Q (F0 m (pc + 1) ls (.int (st.2.1 22 i.toNatClampNeg) :: rest))) : W p l e R s m args below meth c H locs 0 0 Q (F0 m pc ls (.int i :: .ref (ad 32) :: rest)) :=
  va_iald F.1 F.2.1 K Z.1 32 1 rfl rfl (inB_vp hi) hd kk
end
set_option maxRecDepth 100000 in
set_option maxHeartbeats 4000000 in
theorem c_X6_termAt {l : Launch} {D : va_G} {ad : Nat → Nat} {cy : Nat → ClassId} {ee : EE} {n : Nat} {st : StT} {x1 : Int32} {x2 : Int32} {res : (Int32 × StT)} (hf : f_X6_termAt n st x1 x2 = some res) : CT l yX6_termAt cX6_termAt 3 (some .int) 1 22 D cy ee (wC ad cy st) (wC ad cy res.2) [.ref (ad 30), .int x1, .int x2] (some (.int res.1)) := by
  refine CT.of (by decide +kernel) (Nat.le_of_ble_eq_true rfl) ?_
  intro p e s m args below meth c A F hr hk K E hA Z ls hl
  have hl : lv_has ls 3 [(0, .ref (ad 30)), (1, .int x1), (2, .int x2)] := hl
  have hx := F.1
  have hb := F.2.1
  unfold f_X6_termAt at hf
  refine lv_aload_n hx hb dX6_termAt_0 rfl (lv_at hl 0 rfl) ?_
  refine lv_iload_n hx hb dX6_termAt_1 rfl (lv_at hl 1 rfl) ?_
  refine lv_iload_n hx hb dX6_termAt_2 rfl (lv_at hl 2 rfl) ?_
  obtain ⟨q3, h3, hf⟩ := bind_some hf
  refine krX6_28_X6_isAt F K E hA Z h3 ⟨Nat.le_of_ble_eq_true rfl, Nat.le_of_ble_eq_true rfl⟩ hl.1 (Nat.le_of_ble_eq_true rfl) dX6_termAt_3 (fun H locs Z => ?_)
  refine lv_if_eq (tgt := 23) hx hb dX6_termAt_6 (by decide) (fun c6 => ?_) (fun c6 => ?_)
  · have hf := if_t c6 hf
    refine lv_iconst (v := -1) hx hb dX6_termAt_23 (by decide) ?_
    have hf := Option.some.inj hf
    subst hf
    exact ret_i F hr hk Z dX6_termAt_24
  have hf := if_f c6 hf
  refine lv_aload_n hx hb dX6_termAt_9 rfl (lv_at hl 0 rfl) ?_
  refine grX6_15_30 F K Z dX6_termAt_10 ?_
  refine lv_iload_n hx hb dX6_termAt_13 rfl (lv_at hl 1 rfl) ?_
  refine lv_bipush (v := 60) hx hb dX6_termAt_14 (by decide) ?_
  refine lv_imul hx hb dX6_termAt_16 ?_
  refine lv_iload_n hx hb dX6_termAt_17 rfl (lv_at hl 2 rfl) ?_
  refine lv_iadd hx hb dX6_termAt_18 ?_
  obtain ⟨i19, hf⟩ := if_some hf
  refine al32 F K Z i19 dX6_termAt_19 ?_
  refine lv_goto (tgt := 24) hx hb dX6_termAt_20 (by decide) ?_
  have hf := Option.some.inj hf
  subst hf
  exact ret_i F hr hk Z dX6_termAt_24
def f_X6_indexOf_30 (n : Nat) : Nat → StT → Int32 → Int32 → Int32 → Int32 → Option (Int32 × StT)
  | 0, _, _, _, _, _ => none
  | k + 1, st, x1, x2, x3, x4 => if x3 ≤ x4 then (some ((-1 : Int32), st)) else (if inB ((x1 * (60 : Int32)) + x4) 12060 = true then (if (st.2.1 21 (((x1 * (60 : Int32)) + x4)).toNatClampNeg) = x2 then (some (x4, st)) else (f_X6_indexOf_30 n k st x1 x2 x3 (x4 + (1 : Int32)))) else none)
def f_X6_indexOf (n : Nat) (st : StT) (x1 : Int32) (x2 : Int32) : Option (Int32 × StT) := if x1 < 0 then (f_X6_indexOf_30 n n st x1 x2 (0 : Int32) (0 : Int32)) else (if (201 : Int32) ≤ x1 then (f_X6_indexOf_30 n n st x1 x2 (0 : Int32) (0 : Int32)) else (if inB x1 201 = true then (f_X6_indexOf_30 n n st x1 x2 (if (60 : Int32) < (st.2.1 23 (x1).toNatClampNeg) then (60 : Int32) else (st.2.1 23 (x1).toNatClampNeg)) (0 : Int32)) else none))
theorem wd86 : Cond.methodLink RX6 32 yJ9_min_7cf53 ∈ Gw := gT4 (List.mem_of_getElem? (i := 86) rfl) rfl
set_option maxRecDepth 100000 in
set_option maxHeartbeats 4000000 in
theorem b_X6_indexOf_30 {p : Program} {l : Launch} {e : Env} {s : State} {m : MethodId} {args : Array Value} {below : List Frame} {meth : Method} {c : Code} {D : va_G} {A : Nat → Prop} {ad : Nat → Nat} {cy : Nat → ClassId} {ee : EE} {n : Nat} {res : (Int32 × StT)} (F : CallFix p m c cX6_indexOf 5 s args (Cond.code yX6_indexOf cX6_indexOf 5 (some .int) :: Gw) yX6_indexOf.cls) (hr : meth.sig.returnType = (some .int)) (hk : meth.locks = false) (K : va_K D vwCl (tyL cy) s) (E : EV ee A s s.heap) (hA : ∀ q, s.heap.size ≤ q → A q) : ∀ (k : Nat) (st : StT) (x1 : Int32) (x2 : Int32) (x3 : Int32) (x4 : Int32), f_X6_indexOf_30 n k st x1 x2 x3 x4 = some res → ∀ (H : Heap) (locs : List Loc) (ls : Array Slot), ZG D (wC ad cy st) A s H locs → lv_has ls 5 [(0, .ref (ad 30)), (1, .int x1), (2, .int x2), (3, .int x3), (4, .int x4)] → W p l e { frames := 1, cells := 0, slots := 0, locals := 21 } s m args below meth c H locs 0 0 (MQ below (QC D (some (.int res.1)) (wC ad cy res.2) A) args s 0 0 A) (F0 m 30 ls []) := by
  have hx := F.1
  have hb := F.2.1
  intro k
  induction k with
  | zero =>
    intro st x1 x2 x3 x4 hf
    exact absurd hf (by simp [f_X6_indexOf_30])
  | succ k ih =>
    intro st x1 x2 x3 x4 hf H locs ls Z hl
    rw [f_X6_indexOf_30] at hf
    refine lv_iload hx hb dX6_indexOf_30 (lv_at hl 4 rfl) ?_
    refine lv_iload_n hx hb dX6_indexOf_32 rfl (lv_at hl 3 rfl) ?_
    refine lv_icmp_ge (tgt := 61) hx hb dX6_indexOf_33 (by decide) (fun c33 => ?_) (fun c33 => ?_)
    · have hf := if_t c33 hf
      refine lv_iconst (v := -1) hx hb dX6_indexOf_61 (by decide) ?_
      have hf := Option.some.inj hf
      subst hf
      exact ret_i F hr hk Z dX6_indexOf_62
    have hf := if_f c33 hf
    refine lv_aload_n hx hb dX6_indexOf_36 rfl (lv_at hl 0 rfl) ?_
    refine grX6_11_30 F K Z dX6_indexOf_37 ?_
    refine lv_iload_n hx hb dX6_indexOf_40 rfl (lv_at hl 1 rfl) ?_
    refine lv_bipush (v := 60) hx hb dX6_indexOf_41 (by decide) ?_
    refine lv_imul hx hb dX6_indexOf_43 ?_
    refine lv_iload hx hb dX6_indexOf_44 (lv_at hl 4 rfl) ?_
    refine lv_iadd hx hb dX6_indexOf_46 ?_
    obtain ⟨i47, hf⟩ := if_some hf
    refine al31 F K Z i47 dX6_indexOf_47 ?_
    refine lv_iload_n hx hb dX6_indexOf_48 rfl (lv_at hl 2 rfl) ?_
    refine lv_icmp_ne (tgt := 55) hx hb dX6_indexOf_49 (by decide) (fun c49 => ?_) (fun c49 => ?_)
    · have hf := if_f c49 hf
      refine lv_iinc (v := (x4 + (1 : Int32))) (lv' := [(4, .int (x4 + (1 : Int32))), (0, .ref (ad 30)), (1, .int x1), (2, .int x2), (3, .int x3)]) hx hb dX6_indexOf_55 hl (k := 4) rfl (congrArg (fun z => x4 + z) (by decide)) (by decide) rfl (fun ls hl => ?_)
      refine lv_goto (tgt := 30) hx hb dX6_indexOf_58 (by decide) ?_
      exact ih _ _ _ _ _ hf _ _ _ Z (lv_sub hl [1, 2, 3, 4, 0] rfl)
    have hf := if_t c49 hf
    refine lv_iload hx hb dX6_indexOf_52 (lv_at hl 4 rfl) ?_
    have hf := Option.some.inj hf
    subst hf
    exact ret_i F hr hk Z dX6_indexOf_54
set_option maxRecDepth 100000 in
set_option maxHeartbeats 4000000 in
theorem c_X6_indexOf {l : Launch} {D : va_G} {ad : Nat → Nat} {cy : Nat → ClassId} {ee : EE} {n : Nat} {st : StT} {x1 : Int32} {x2 : Int32} {res : (Int32 × StT)} (hf : f_X6_indexOf n st x1 x2 = some res) : CT l yX6_indexOf cX6_indexOf 5 (some .int) 1 21 D cy ee (wC ad cy st) (wC ad cy res.2) [.ref (ad 30), .int x1, .int x2] (some (.int res.1)) := by
  refine CT.of (by decide +kernel) (Nat.le_of_ble_eq_true rfl) ?_
  intro p e s m args below meth c A F hr hk K E hA Z ls hl
  have hl : lv_has ls 5 [(0, .ref (ad 30)), (1, .int x1), (2, .int x2)] := hl
  have hx := F.1
  have hb := F.2.1
  unfold f_X6_indexOf at hf
  refine lv_iload_n hx hb dX6_indexOf_0 rfl (lv_at hl 1 rfl) ?_
  refine lv_if_lt (tgt := 25) hx hb dX6_indexOf_1 (by decide) (fun c1 => ?_) (fun c1 => ?_)
  · have hf := if_t c1 hf
    refine lv_iconst (v := 0) hx hb dX6_indexOf_25 (by decide) ?_
    refine lv_istore_n (lv' := [(3, .int (0 : Int32)), (0, .ref (ad 30)), (1, .int x1), (2, .int x2)]) hx hb dX6_indexOf_26 rfl hl (by decide) rfl (fun ls hl => ?_)
    refine lv_iconst (v := 0) hx hb dX6_indexOf_27 (by decide) ?_
    refine lv_istore (lv' := [(4, .int (0 : Int32)), (3, .int (0 : Int32)), (0, .ref (ad 30)), (1, .int x1), (2, .int x2)]) hx hb dX6_indexOf_28 hl (by decide) rfl (fun ls hl => ?_)
    exact b_X6_indexOf_30 F hr hk K E hA _ _ _ _ _ _ hf _ _ _ Z (lv_sub hl [2, 3, 4, 1, 0] rfl)
  have hf := if_f c1 hf
  refine lv_iload_n hx hb dX6_indexOf_4 rfl (lv_at hl 1 rfl) ?_
  refine lv_sipush (v := 201) hx hb dX6_indexOf_5 (by decide) ?_
  refine lv_icmp_ge (tgt := 25) hx hb dX6_indexOf_8 (by decide) (fun c8 => ?_) (fun c8 => ?_)
  · have hf := if_t c8 hf
    refine lv_iconst (v := 0) hx hb dX6_indexOf_25 (by decide) ?_
    refine lv_istore_n (lv' := [(3, .int (0 : Int32)), (0, .ref (ad 30)), (1, .int x1), (2, .int x2)]) hx hb dX6_indexOf_26 rfl hl (by decide) rfl (fun ls hl => ?_)
    refine lv_iconst (v := 0) hx hb dX6_indexOf_27 (by decide) ?_
    refine lv_istore (lv' := [(4, .int (0 : Int32)), (3, .int (0 : Int32)), (0, .ref (ad 30)), (1, .int x1), (2, .int x2)]) hx hb dX6_indexOf_28 hl (by decide) rfl (fun ls hl => ?_)
    exact b_X6_indexOf_30 F hr hk K E hA _ _ _ _ _ _ hf _ _ _ Z (lv_sub hl [2, 3, 4, 1, 0] rfl)
  have hf := if_f c8 hf
  refine lv_aload_n hx hb dX6_indexOf_11 rfl (lv_at hl 0 rfl) ?_
  refine grX6_18_30 F K Z dX6_indexOf_12 ?_
  refine lv_iload_n hx hb dX6_indexOf_15 rfl (lv_at hl 1 rfl) ?_
  obtain ⟨i16, hf⟩ := if_some hf
  refine al33 F K Z i16 dX6_indexOf_16 ?_
  refine lv_bipush (v := 60) hx hb dX6_indexOf_17 (by decide) ?_
  refine mth_min F (F.2.2.2.2 _ (List.mem_cons_of_mem _ wd86)) hl.1 (Nat.le_of_ble_eq_true rfl) (Nat.le_of_ble_eq_true rfl) dX6_indexOf_19 ?_
  refine lv_goto (tgt := 26) hx hb dX6_indexOf_22 (by decide) ?_
  refine lv_istore_n (lv' := [(3, .int (if (60 : Int32) < (st.2.1 23 (x1).toNatClampNeg) then (60 : Int32) else (st.2.1 23 (x1).toNatClampNeg))), (0, .ref (ad 30)), (1, .int x1), (2, .int x2)]) hx hb dX6_indexOf_26 rfl hl (by decide) rfl (fun ls hl => ?_)
  refine lv_iconst (v := 0) hx hb dX6_indexOf_27 (by decide) ?_
  refine lv_istore (lv' := [(4, .int (0 : Int32)), (3, .int (if (60 : Int32) < (st.2.1 23 (x1).toNatClampNeg) then (60 : Int32) else (st.2.1 23 (x1).toNatClampNeg))), (0, .ref (ad 30)), (1, .int x1), (2, .int x2)]) hx hb dX6_indexOf_28 hl (by decide) rfl (fun ls hl => ?_)
  exact b_X6_indexOf_30 F hr hk K E hA _ _ _ _ _ _ hf _ _ _ Z (lv_sub hl [2, 3, 4, 1, 0] rfl)
def f_X6_begin (n : Nat) (st : StT) (x1 : Int32) : Option StT := if inB (0 : Int32) 201 = true then (if inB (0 : Int32) 201 = true then (some (uF (uA (uA st 23 (0 : Int32) (0 : Int32)) 24 (0 : Int32) x1) 17 (0 : Int32))) else none) else none
theorem wd87 : Cond.fieldLink RX6 38 "WorldProver$Sequents" "most" "I" ∈ Gw := gT1 (List.mem_of_getElem? (i := 222) rfl) rfl
section
variable {p : Program} {l : Launch} {e : Env} {R : Room} {s : State} {m : MethodId} {args : Array Value} {below : List Frame} {meth : Method} {c : Code} {H : Heap} {locs : List Loc} {Q : State → Prop}
variable {cc : ByteArray} {nL pc : Nat} {ls : Array Slot} {rest : List Value} {D : va_G} {A : Nat → Prop} {cw : Cond} {ad : Nat → Nat} {cy : Nat → ClassId} {ee : EE} {st : StT} {own : String}
theorem as33 {i : Int32} {v : Int32} (F : CallFix p m c cc nL s args (cw :: Gw) own) (K : va_K D vwCl (tyL cy) s) (Z : ZG D (wC ad cy st) A s H locs) (hi : inB i 201 = true) (hd : decode cc pc = .ok (.iastore, 1)) (kk : ∀ (H1 : Heap) (locs1 : List Loc), ZG D (wC ad cy (uA st 23 i v)) A s H1 locs1 → W p l e R s m args below meth c H1 locs1 0 0 Q (F0 m (pc + 1) ls rest)) : W p l e R s m args below meth c H locs 0 0 Q (F0 m pc ls (.int v :: .int i :: .ref (ad 33) :: rest)) :=
  va_iast F.1 F.2.1 K Z.1 Z.2.1 Z.2.2 33 1 rfl rfl (inB_vp hi) hd (fun H1 locs1 hP hD hS => kk H1 locs1 ⟨hP, hD, hS⟩)
theorem as34 {i : Int32} {v : Int32} (F : CallFix p m c cc nL s args (cw :: Gw) own) (K : va_K D vwCl (tyL cy) s) (Z : ZG D (wC ad cy st) A s H locs) (hi : inB i 201 = true) (hd : decode cc pc = .ok (.iastore, 1)) (kk : ∀ (H1 : Heap) (locs1 : List Loc), ZG D (wC ad cy (uA st 24 i v)) A s H1 locs1 → W p l e R s m args below meth c H1 locs1 0 0 Q (F0 m (pc + 1) ls rest)) : W p l e R s m args below meth c H locs 0 0 Q (F0 m pc ls (.int v :: .int i :: .ref (ad 34) :: rest)) :=
  va_iast F.1 F.2.1 K Z.1 Z.2.1 Z.2.2 34 1 rfl rfl (inB_vp hi) hd (fun H1 locs1 hP hD hS => kk H1 locs1 ⟨hP, hD, hS⟩)
theorem prX6_38_30 {v : Int32} (F : CallFix p m c cc nL s args (cw :: Gw) RX6) (K : va_K D vwCl (tyL cy) s) (Z : ZG D (wC ad cy st) A s H locs) (hd : decode cc pc = .ok (.putfield 38, 3)) (kk : ∀ (H1 : Heap) (locs1 : List Loc), ZG D (wC ad cy (uF st 17 v)) A s H1 locs1 → W p l e R s m args below meth c H1 locs1 0 0 Q (F0 m (pc + 3) ls rest)) : W p l e R s m args below meth c H locs 0 0 Q (F0 m pc ls (.int v :: .ref (ad 30) :: rest)) :=
  va_put (D := D) (ci := 6) (v := .int v) (ty := .int) (C := RX6) (T := TX6) (N := 5) F.1 F.2.1 F.2.2.2.2 (fun w h => List.mem_cons_of_mem _ (inG_X6 w h)) tyX6 tyX6_ok nmX6 F.2.2.2.1 K Z.1 Z.2.1 Z.2.2 30 rfl rfl 4 (by decide) (F.2.2.2.2 _ (List.mem_cons_of_mem _ wd87)) (fun _ h => h) rfl (by decide +kernel) rfl rfl (Nat.le_of_ble_eq_true rfl) hd (fun H1 locs1 hP hD hS => kk H1 locs1 ⟨hP, hD, hS⟩)
end
set_option maxRecDepth 100000 in
set_option maxHeartbeats 4000000 in
theorem c_X6_begin {l : Launch} {D : va_G} {ad : Nat → Nat} {cy : Nat → ClassId} {ee : EE} {n : Nat} {st : StT} {x1 : Int32} {res : StT} (hf : f_X6_begin n st x1 = some res) : CT l yX6_begin cX6_begin 2 none 0 0 D cy ee (wC ad cy st) (wC ad cy res) [.ref (ad 30), .int x1] (none) := by
  refine CT.of (by decide +kernel) (Nat.le_of_ble_eq_true rfl) ?_
  intro p e s m args below meth c A F hr hk K E hA Z ls hl
  have hl : lv_has ls 2 [(0, .ref (ad 30)), (1, .int x1)] := hl
  have hx := F.1
  have hb := F.2.1
  unfold f_X6_begin at hf
  refine lv_aload_n hx hb dX6_begin_0 rfl (lv_at hl 0 rfl) ?_
  refine grX6_18_30 F K Z dX6_begin_1 ?_
  refine lv_iconst (v := 0) hx hb dX6_begin_4 (by decide) ?_
  refine lv_iconst (v := 0) hx hb dX6_begin_5 (by decide) ?_
  obtain ⟨i6, hf⟩ := if_some hf
  refine as33 F K Z i6 dX6_begin_6 (fun H locs Z => ?_)
  refine lv_aload_n hx hb dX6_begin_7 rfl (lv_at hl 0 rfl) ?_
  refine grX6_21_30 F K Z dX6_begin_8 ?_
  refine lv_iconst (v := 0) hx hb dX6_begin_11 (by decide) ?_
  refine lv_iload_n hx hb dX6_begin_12 rfl (lv_at hl 1 rfl) ?_
  obtain ⟨i13, hf⟩ := if_some hf
  refine as34 F K Z i13 dX6_begin_13 (fun H locs Z => ?_)
  refine lv_aload_n hx hb dX6_begin_14 rfl (lv_at hl 0 rfl) ?_
  refine lv_iconst (v := 0) hx hb dX6_begin_15 (by decide) ?_
  refine prX6_38_30 F K Z dX6_begin_16 (fun H locs Z => ?_)
  have hf := Option.some.inj hf
  subst hf
  exact ret_v F hr hk Z dX6_begin_19
def f_X6_follow_35 (n : Nat) : Nat → StT → Int32 → Int32 → Int32 → Int32 → Int32 → Option StT
  | 0, _, _, _, _, _, _ => none
  | k + 1, st, x1, x2, x4, x5, x6 => if inB x1 201 = true then (if (st.2.1 23 (x1).toNatClampNeg) ≤ x6 then (if inB x4 201 = true then (some (uA st 23 x4 x5)) else none) else (if (60 : Int32) ≤ x6 then (if inB x4 201 = true then (some (uA st 23 x4 x5)) else none) else (if x6 = x2 then (f_X6_follow_35 n k st x1 x2 x4 x5 (x6 + (1 : Int32))) else (if inB ((x1 * (60 : Int32)) + x6) 12060 = true then (if inB ((x4 * (60 : Int32)) + x5) 12060 = true then (if inB ((x1 * (60 : Int32)) + x6) 12060 = true then (if inB ((x4 * (60 : Int32)) + x5) 12060 = true then (f_X6_follow_35 n k (uA (uA st 21 ((x4 * (60 : Int32)) + x5) (st.2.1 21 (((x1 * (60 : Int32)) + x6)).toNatClampNeg)) 22 ((x4 * (60 : Int32)) + x5) ((uA st 21 ((x4 * (60 : Int32)) + x5) (st.2.1 21 (((x1 * (60 : Int32)) + x6)).toNatClampNeg)).2.1 22 (((x1 * (60 : Int32)) + x6)).toNatClampNeg)) x1 x2 x4 (x5 + (1 : Int32)) (x6 + (1 : Int32))) else none) else none) else none) else none)))) else none
def f_X6_follow (n : Nat) (st : StT) (x1 : Int32) (x2 : Int32) (x3 : Int32) : Option StT := (f_X6_isRow n st x1).bind fun q6 => (if q6.1 = 0 then (some q6.2) else ((f_X6_isRow n q6.2 (x1 + (1 : Int32))).bind fun q14 => (if q14.1 = 0 then (some q14.2) else (if inB (x1 + (1 : Int32)) 201 = true then (f_X6_follow_35 n n (uA q14.2 24 (x1 + (1 : Int32)) x3) x1 x2 (x1 + (1 : Int32)) (0 : Int32) (0 : Int32)) else none))))
section
variable {p : Program} {l : Launch} {e : Env} {R : Room} {s : State} {m : MethodId} {args : Array Value} {below : List Frame} {meth : Method} {c : Code} {H : Heap} {locs : List Loc} {Q : State → Prop}
variable {cc : ByteArray} {nL pc : Nat} {ls : Array Slot} {rest : List Value} {D : va_G} {A : Nat → Prop} {cw : Cond} {ad : Nat → Nat} {cy : Nat → ClassId} {ee : EE} {st : StT} {own : String}
theorem as31 {i : Int32} {v : Int32} (F : CallFix p m c cc nL s args (cw :: Gw) own) (K : va_K D vwCl (tyL cy) s) (Z : ZG D (wC ad cy st) A s H locs) (hi : inB i 12060 = true) (hd : decode cc pc = .ok (.iastore, 1)) (kk : ∀ (H1 : Heap) (locs1 : List Loc), ZG D (wC ad cy (uA st 21 i v)) A s H1 locs1 → W p l e R s m args below meth c H1 locs1 0 0 Q (F0 m (pc + 1) ls rest)) : W p l e R s m args below meth c H locs 0 0 Q (F0 m pc ls (.int v :: .int i :: .ref (ad 31) :: rest)) :=
  va_iast F.1 F.2.1 K Z.1 Z.2.1 Z.2.2 31 1 rfl rfl (inB_vp hi) hd (fun H1 locs1 hP hD hS => kk H1 locs1 ⟨hP, hD, hS⟩)
theorem as32 {i : Int32} {v : Int32} (F : CallFix p m c cc nL s args (cw :: Gw) own) (K : va_K D vwCl (tyL cy) s) (Z : ZG D (wC ad cy st) A s H locs) (hi : inB i 12060 = true) (hd : decode cc pc = .ok (.iastore, 1)) (kk : ∀ (H1 : Heap) (locs1 : List Loc), ZG D (wC ad cy (uA st 22 i v)) A s H1 locs1 → W p l e R s m args below meth c H1 locs1 0 0 Q (F0 m (pc + 1) ls rest)) : W p l e R s m args below meth c H locs 0 0 Q (F0 m pc ls (.int v :: .int i :: .ref (ad 32) :: rest)) :=
  va_iast F.1 F.2.1 K Z.1 Z.2.1 Z.2.2 32 1 rfl rfl (inB_vp hi) hd (fun H1 locs1 hP hD hS => kk H1 locs1 ⟨hP, hD, hS⟩)
end
set_option maxRecDepth 100000 in
set_option maxHeartbeats 4000000 in
theorem b_X6_follow_35 {p : Program} {l : Launch} {e : Env} {s : State} {m : MethodId} {args : Array Value} {below : List Frame} {meth : Method} {c : Code} {D : va_G} {A : Nat → Prop} {ad : Nat → Nat} {cy : Nat → ClassId} {ee : EE} {n : Nat} {res : StT} (F : CallFix p m c cX6_follow 7 s args (Cond.code yX6_follow cX6_follow 7 none :: Gw) yX6_follow.cls) (hr : meth.sig.returnType = none) (hk : meth.locks = false) (K : va_K D vwCl (tyL cy) s) (E : EV ee A s s.heap) (hA : ∀ q, s.heap.size ≤ q → A q) : ∀ (k : Nat) (st : StT) (x1 : Int32) (x2 : Int32) (x4 : Int32) (x5 : Int32) (x6 : Int32), f_X6_follow_35 n k st x1 x2 x4 x5 x6 = some res → ∀ (H : Heap) (locs : List Loc) (ls : Array Slot), ZG D (wC ad cy st) A s H locs → lv_has ls 7 [(0, .ref (ad 30)), (1, .int x1), (2, .int x2), (4, .int x4), (5, .int x5), (6, .int x6)] → W p l e { frames := 1, cells := 0, slots := 0, locals := 20 } s m args below meth c H locs 0 0 (MQ below (QC D (none) (wC ad cy res) A) args s 0 0 A) (F0 m 35 ls []) := by
  have hx := F.1
  have hb := F.2.1
  intro k
  induction k with
  | zero =>
    intro st x1 x2 x4 x5 x6 hf
    exact absurd hf (by simp [f_X6_follow_35])
  | succ k ih =>
    intro st x1 x2 x4 x5 x6 hf H locs ls Z hl
    rw [f_X6_follow_35] at hf
    refine lv_iload hx hb dX6_follow_35 (lv_at hl 5 rfl) ?_
    refine lv_aload_n hx hb dX6_follow_37 rfl (lv_at hl 0 rfl) ?_
    refine grX6_18_30 F K Z dX6_follow_38 ?_
    refine lv_iload_n hx hb dX6_follow_41 rfl (lv_at hl 1 rfl) ?_
    obtain ⟨i42, hf⟩ := if_some hf
    refine al33 F K Z i42 dX6_follow_42 ?_
    refine lv_icmp_ge (tgt := 118) hx hb dX6_follow_43 (by decide) (fun c43 => ?_) (fun c43 => ?_)
    · have hf := if_t c43 hf
      refine lv_aload_n hx hb dX6_follow_118 rfl (lv_at hl 0 rfl) ?_
      refine grX6_18_30 F K Z dX6_follow_119 ?_
      refine lv_iload hx hb dX6_follow_122 (lv_at hl 3 rfl) ?_
      refine lv_iload hx hb dX6_follow_124 (lv_at hl 4 rfl) ?_
      obtain ⟨i126, hf⟩ := if_some hf
      refine as33 F K Z i126 dX6_follow_126 (fun H locs Z => ?_)
      have hf := Option.some.inj hf
      subst hf
      exact ret_v F hr hk Z dX6_follow_127
    have hf := if_f c43 hf
    refine lv_iload hx hb dX6_follow_46 (lv_at hl 5 rfl) ?_
    refine lv_bipush (v := 60) hx hb dX6_follow_48 (by decide) ?_
    refine lv_icmp_ge (tgt := 118) hx hb dX6_follow_50 (by decide) (fun c50 => ?_) (fun c50 => ?_)
    · have hf := if_t c50 hf
      refine lv_aload_n hx hb dX6_follow_118 rfl (lv_at hl 0 rfl) ?_
      refine grX6_18_30 F K Z dX6_follow_119 ?_
      refine lv_iload hx hb dX6_follow_122 (lv_at hl 3 rfl) ?_
      refine lv_iload hx hb dX6_follow_124 (lv_at hl 4 rfl) ?_
      obtain ⟨i126, hf⟩ := if_some hf
      refine as33 F K Z i126 dX6_follow_126 (fun H locs Z => ?_)
      have hf := Option.some.inj hf
      subst hf
      exact ret_v F hr hk Z dX6_follow_127
    have hf := if_f c50 hf
    refine lv_iload hx hb dX6_follow_53 (lv_at hl 5 rfl) ?_
    refine lv_iload_n hx hb dX6_follow_55 rfl (lv_at hl 2 rfl) ?_
    refine lv_icmp_eq (tgt := 112) hx hb dX6_follow_56 (by decide) (fun c56 => ?_) (fun c56 => ?_)
    · have hf := if_t c56 hf
      refine lv_iinc (v := (x6 + (1 : Int32))) (lv' := [(6, .int (x6 + (1 : Int32))), (0, .ref (ad 30)), (1, .int x1), (2, .int x2), (4, .int x4), (5, .int x5)]) hx hb dX6_follow_112 hl (k := 5) rfl (congrArg (fun z => x6 + z) (by decide)) (by decide) rfl (fun ls hl => ?_)
      refine lv_goto (tgt := 35) hx hb dX6_follow_115 (by decide) ?_
      exact ih _ _ _ _ _ _ hf _ _ _ Z (lv_sub hl [1, 2, 3, 4, 5, 0] rfl)
    have hf := if_f c56 hf
    refine lv_aload_n hx hb dX6_follow_59 rfl (lv_at hl 0 rfl) ?_
    refine grX6_11_30 F K Z dX6_follow_60 ?_
    refine lv_iload hx hb dX6_follow_63 (lv_at hl 3 rfl) ?_
    refine lv_bipush (v := 60) hx hb dX6_follow_65 (by decide) ?_
    refine lv_imul hx hb dX6_follow_67 ?_
    refine lv_iload hx hb dX6_follow_68 (lv_at hl 4 rfl) ?_
    refine lv_iadd hx hb dX6_follow_70 ?_
    refine lv_aload_n hx hb dX6_follow_71 rfl (lv_at hl 0 rfl) ?_
    refine grX6_11_30 F K Z dX6_follow_72 ?_
    refine lv_iload_n hx hb dX6_follow_75 rfl (lv_at hl 1 rfl) ?_
    refine lv_bipush (v := 60) hx hb dX6_follow_76 (by decide) ?_
    refine lv_imul hx hb dX6_follow_78 ?_
    refine lv_iload hx hb dX6_follow_79 (lv_at hl 5 rfl) ?_
    refine lv_iadd hx hb dX6_follow_81 ?_
    obtain ⟨i82, hf⟩ := if_some hf
    refine al31 F K Z i82 dX6_follow_82 ?_
    obtain ⟨i83, hf⟩ := if_some hf
    refine as31 F K Z i83 dX6_follow_83 (fun H locs Z => ?_)
    refine lv_aload_n hx hb dX6_follow_84 rfl (lv_at hl 0 rfl) ?_
    refine grX6_15_30 F K Z dX6_follow_85 ?_
    refine lv_iload hx hb dX6_follow_88 (lv_at hl 3 rfl) ?_
    refine lv_bipush (v := 60) hx hb dX6_follow_90 (by decide) ?_
    refine lv_imul hx hb dX6_follow_92 ?_
    refine lv_iload hx hb dX6_follow_93 (lv_at hl 4 rfl) ?_
    refine lv_iadd hx hb dX6_follow_95 ?_
    refine lv_aload_n hx hb dX6_follow_96 rfl (lv_at hl 0 rfl) ?_
    refine grX6_15_30 F K Z dX6_follow_97 ?_
    refine lv_iload_n hx hb dX6_follow_100 rfl (lv_at hl 1 rfl) ?_
    refine lv_bipush (v := 60) hx hb dX6_follow_101 (by decide) ?_
    refine lv_imul hx hb dX6_follow_103 ?_
    refine lv_iload hx hb dX6_follow_104 (lv_at hl 5 rfl) ?_
    refine lv_iadd hx hb dX6_follow_106 ?_
    obtain ⟨i107, hf⟩ := if_some hf
    refine al32 F K Z i107 dX6_follow_107 ?_
    obtain ⟨i108, hf⟩ := if_some hf
    refine as32 F K Z i108 dX6_follow_108 (fun H locs Z => ?_)
    refine lv_iinc (v := (x5 + (1 : Int32))) (lv' := [(5, .int (x5 + (1 : Int32))), (0, .ref (ad 30)), (1, .int x1), (2, .int x2), (4, .int x4), (6, .int x6)]) hx hb dX6_follow_109 hl (k := 4) rfl (congrArg (fun z => x5 + z) (by decide)) (by decide) rfl (fun ls hl => ?_)
    refine lv_iinc (v := (x6 + (1 : Int32))) (lv' := [(6, .int (x6 + (1 : Int32))), (5, .int (x5 + (1 : Int32))), (0, .ref (ad 30)), (1, .int x1), (2, .int x2), (4, .int x4)]) hx hb dX6_follow_112 hl (k := 5) rfl (congrArg (fun z => x6 + z) (by decide)) (by decide) rfl (fun ls hl => ?_)
    refine lv_goto (tgt := 35) hx hb dX6_follow_115 (by decide) ?_
    exact ih _ _ _ _ _ _ hf _ _ _ Z (lv_sub hl [2, 3, 4, 5, 1, 0] rfl)
set_option maxRecDepth 100000 in
set_option maxHeartbeats 4000000 in
theorem c_X6_follow {l : Launch} {D : va_G} {ad : Nat → Nat} {cy : Nat → ClassId} {ee : EE} {n : Nat} {st : StT} {x1 : Int32} {x2 : Int32} {x3 : Int32} {res : StT} (hf : f_X6_follow n st x1 x2 x3 = some res) : CT l yX6_follow cX6_follow 7 none 1 20 D cy ee (wC ad cy st) (wC ad cy res) [.ref (ad 30), .int x1, .int x2, .int x3] (none) := by
  refine CT.of (by decide +kernel) (Nat.le_of_ble_eq_true rfl) ?_
  intro p e s m args below meth c A F hr hk K E hA Z ls hl
  have hl : lv_has ls 7 [(0, .ref (ad 30)), (1, .int x1), (2, .int x2), (3, .int x3)] := hl
  have hx := F.1
  have hb := F.2.1
  unfold f_X6_follow at hf
  refine lv_iload_n hx hb dX6_follow_0 rfl (lv_at hl 1 rfl) ?_
  refine lv_iconst (v := 1) hx hb dX6_follow_1 (by decide) ?_
  refine lv_iadd hx hb dX6_follow_2 ?_
  refine lv_istore (lv' := [(4, .int (x1 + (1 : Int32))), (0, .ref (ad 30)), (1, .int x1), (2, .int x2), (3, .int x3)]) hx hb dX6_follow_3 hl (by decide) rfl (fun ls hl => ?_)
  refine lv_iload_n hx hb dX6_follow_5 rfl (lv_at hl 2 rfl) ?_
  obtain ⟨q6, h6, hf⟩ := bind_some hf
  refine krX6_24_X6_isRow F K E hA Z h6 ⟨Nat.le_of_ble_eq_true rfl, Nat.le_of_ble_eq_true rfl⟩ hl.1 (Nat.le_of_ble_eq_true rfl) dX6_follow_6 (fun H locs Z => ?_)
  refine lv_if_eq (tgt := 20) hx hb dX6_follow_9 (by decide) (fun c9 => ?_) (fun c9 => ?_)
  · have hf := if_t c9 hf
    have hf := Option.some.inj hf
    subst hf
    exact ret_v F hr hk Z dX6_follow_20
  have hf := if_f c9 hf
  refine lv_iload hx hb dX6_follow_12 (lv_at hl 0 rfl) ?_
  obtain ⟨q14, h14, hf⟩ := bind_some hf
  refine krX6_24_X6_isRow F K E hA Z h14 ⟨Nat.le_of_ble_eq_true rfl, Nat.le_of_ble_eq_true rfl⟩ hl.1 (Nat.le_of_ble_eq_true rfl) dX6_follow_14 (fun H locs Z => ?_)
  refine lv_if_ne (tgt := 21) hx hb dX6_follow_17 (by decide) (fun c17 => ?_) (fun c17 => ?_)
  · have hf := if_f c17 hf
    refine lv_aload_n hx hb dX6_follow_21 rfl (lv_at hl 1 rfl) ?_
    refine grX6_21_30 F K Z dX6_follow_22 ?_
    refine lv_iload hx hb dX6_follow_25 (lv_at hl 0 rfl) ?_
    refine lv_iload_n hx hb dX6_follow_27 rfl (lv_at hl 4 rfl) ?_
    obtain ⟨i28, hf⟩ := if_some hf
    refine as34 F K Z i28 dX6_follow_28 (fun H locs Z => ?_)
    refine lv_iconst (v := 0) hx hb dX6_follow_29 (by decide) ?_
    refine lv_istore (lv' := [(5, .int (0 : Int32)), (4, .int (x1 + (1 : Int32))), (0, .ref (ad 30)), (1, .int x1), (2, .int x2), (3, .int x3)]) hx hb dX6_follow_30 hl (by decide) rfl (fun ls hl => ?_)
    refine lv_iconst (v := 0) hx hb dX6_follow_32 (by decide) ?_
    refine lv_istore (lv' := [(6, .int (0 : Int32)), (5, .int (0 : Int32)), (4, .int (x1 + (1 : Int32))), (0, .ref (ad 30)), (1, .int x1), (2, .int x2), (3, .int x3)]) hx hb dX6_follow_33 hl (by decide) rfl (fun ls hl => ?_)
    exact b_X6_follow_35 F hr hk K E hA _ _ _ _ _ _ _ hf _ _ _ Z (lv_sub hl [3, 4, 5, 2, 1, 0] rfl)
  have hf := if_t c17 hf
  have hf := Option.some.inj hf
  subst hf
  exact ret_v F hr hk Z dX6_follow_20
def f_X6_comes (n : Nat) (st : StT) (x1 : Int32) (x2 : Int32) (x3 : Int32) : Option (Int32 × StT) := (f_X6_indexOf n st x1 x2).bind fun q3 => (if q3.1 < 0 then ((f_X6_isRow n q3.2 x1).bind fun q12 => (if q12.1 = 0 then (some ((0 : Int32), q12.2)) else (if inB x1 201 = true then (if (q12.2.2.1 23 (x1).toNatClampNeg) < 0 then (some ((0 : Int32), q12.2)) else (if inB x1 201 = true then (if (q12.2.2.1 23 (x1).toNatClampNeg) < (60 : Int32) then (if inB x1 201 = true then (if inB ((x1 * (60 : Int32)) + (q12.2.2.1 23 (x1).toNatClampNeg)) 12060 = true then (if inB x1 201 = true then (if inB ((x1 * (60 : Int32)) + ((uA q12.2 21 ((x1 * (60 : Int32)) + (q12.2.2.1 23 (x1).toNatClampNeg)) x2).2.1 23 (x1).toNatClampNeg)) 12060 = true then (if inB x1 201 = true then (if inB x1 201 = true then (if inB x1 201 = true then (some ((1 : Int32), (uF (uA (uA (uA q12.2 21 ((x1 * (60 : Int32)) + (q12.2.2.1 23 (x1).toNatClampNeg)) x2) 22 ((x1 * (60 : Int32)) + ((uA q12.2 21 ((x1 * (60 : Int32)) + (q12.2.2.1 23 (x1).toNatClampNeg)) x2).2.1 23 (x1).toNatClampNeg)) x3) 23 x1 (((uA (uA q12.2 21 ((x1 * (60 : Int32)) + (q12.2.2.1 23 (x1).toNatClampNeg)) x2) 22 ((x1 * (60 : Int32)) + ((uA q12.2 21 ((x1 * (60 : Int32)) + (q12.2.2.1 23 (x1).toNatClampNeg)) x2).2.1 23 (x1).toNatClampNeg)) x3).2.1 23 (x1).toNatClampNeg) + (1 : Int32))) 17 (if ((uA (uA (uA q12.2 21 ((x1 * (60 : Int32)) + (q12.2.2.1 23 (x1).toNatClampNeg)) x2) 22 ((x1 * (60 : Int32)) + ((uA q12.2 21 ((x1 * (60 : Int32)) + (q12.2.2.1 23 (x1).toNatClampNeg)) x2).2.1 23 (x1).toNatClampNeg)) x3) 23 x1 (((uA (uA q12.2 21 ((x1 * (60 : Int32)) + (q12.2.2.1 23 (x1).toNatClampNeg)) x2) 22 ((x1 * (60 : Int32)) + ((uA q12.2 21 ((x1 * (60 : Int32)) + (q12.2.2.1 23 (x1).toNatClampNeg)) x2).2.1 23 (x1).toNatClampNeg)) x3).2.1 23 (x1).toNatClampNeg) + (1 : Int32))).1 17) < ((uA (uA (uA q12.2 21 ((x1 * (60 : Int32)) + (q12.2.2.1 23 (x1).toNatClampNeg)) x2) 22 ((x1 * (60 : Int32)) + ((uA q12.2 21 ((x1 * (60 : Int32)) + (q12.2.2.1 23 (x1).toNatClampNeg)) x2).2.1 23 (x1).toNatClampNeg)) x3) 23 x1 (((uA (uA q12.2 21 ((x1 * (60 : Int32)) + (q12.2.2.1 23 (x1).toNatClampNeg)) x2) 22 ((x1 * (60 : Int32)) + ((uA q12.2 21 ((x1 * (60 : Int32)) + (q12.2.2.1 23 (x1).toNatClampNeg)) x2).2.1 23 (x1).toNatClampNeg)) x3).2.1 23 (x1).toNatClampNeg) + (1 : Int32))).2.1 23 (x1).toNatClampNeg) then ((uA (uA (uA q12.2 21 ((x1 * (60 : Int32)) + (q12.2.2.1 23 (x1).toNatClampNeg)) x2) 22 ((x1 * (60 : Int32)) + ((uA q12.2 21 ((x1 * (60 : Int32)) + (q12.2.2.1 23 (x1).toNatClampNeg)) x2).2.1 23 (x1).toNatClampNeg)) x3) 23 x1 (((uA (uA q12.2 21 ((x1 * (60 : Int32)) + (q12.2.2.1 23 (x1).toNatClampNeg)) x2) 22 ((x1 * (60 : Int32)) + ((uA q12.2 21 ((x1 * (60 : Int32)) + (q12.2.2.1 23 (x1).toNatClampNeg)) x2).2.1 23 (x1).toNatClampNeg)) x3).2.1 23 (x1).toNatClampNeg) + (1 : Int32))).2.1 23 (x1).toNatClampNeg) else ((uA (uA (uA q12.2 21 ((x1 * (60 : Int32)) + (q12.2.2.1 23 (x1).toNatClampNeg)) x2) 22 ((x1 * (60 : Int32)) + ((uA q12.2 21 ((x1 * (60 : Int32)) + (q12.2.2.1 23 (x1).toNatClampNeg)) x2).2.1 23 (x1).toNatClampNeg)) x3) 23 x1 (((uA (uA q12.2 21 ((x1 * (60 : Int32)) + (q12.2.2.1 23 (x1).toNatClampNeg)) x2) 22 ((x1 * (60 : Int32)) + ((uA q12.2 21 ((x1 * (60 : Int32)) + (q12.2.2.1 23 (x1).toNatClampNeg)) x2).2.1 23 (x1).toNatClampNeg)) x3).2.1 23 (x1).toNatClampNeg) + (1 : Int32))).1 17))))) else none) else none) else none) else none) else none) else none) else none) else (some ((0 : Int32), q12.2))) else none)) else none))) else (some ((1 : Int32), q3.2)))
theorem wd88 : Cond.methodLink RX6 45 yJ9_max_7cf53 ∈ Gw := gT4 (List.mem_of_getElem? (i := 90) rfl) rfl
theorem wd89 : Cond.methodLink RX6 42 yX6_indexOf ∈ Gw := gT4 (List.mem_of_getElem? (i := 82) rfl) rfl
theorem wd90 : Cond.code yX6_indexOf prog_8_method_8_code 5 (some .int) ∈ Gw := gT4 (List.mem_of_getElem? (i := 85) rfl) rfl
theorem wd91 : Cond.instanceMethod yX6_indexOf ∈ Gw := gT4 (List.mem_of_getElem? (i := 83) rfl) rfl
theorem wd92 : Cond.selects RX6 yX6_indexOf yX6_indexOf ∈ Gw := gT4 (List.mem_of_getElem? (i := 84) rfl) rfl
section
variable {p : Program} {l : Launch} {e : Env} {R : Room} {s : State} {m : MethodId} {args : Array Value} {below : List Frame} {meth : Method} {c : Code} {H : Heap} {locs : List Loc} {Q : State → Prop}
variable {cc : ByteArray} {nL pc : Nat} {ls : Array Slot} {rest : List Value} {D : va_G} {A : Nat → Prop} {cw : Cond} {ad : Nat → Nat} {cy : Nat → ClassId} {ee : EE} {st : StT} {own : String}
theorem grX6_38_30 (F : CallFix p m c cc nL s args (cw :: Gw) RX6) (K : va_K D vwCl (tyL cy) s) (Z : ZG D (wC ad cy st) A s H locs) (hd : decode cc pc = .ok (.getfield 38, 3)) (kk : W p l e R s m args below meth c H locs 0 0 Q (F0 m (pc + 3) ls (.int (st.1 17) :: rest))) : W p l e R s m args below meth c H locs 0 0 Q (F0 m pc ls (.ref (ad 30) :: rest)) :=
  va_get (D := D) (ci := 6) (C := RX6) (T := TX6) (N := 5) F.1 F.2.1 F.2.2.2.2 (fun w h => List.mem_cons_of_mem _ (inG_X6 w h)) F.2.2.2.1 K Z.1 30 rfl rfl 4 (by decide) (F.2.2.2.2 _ (List.mem_cons_of_mem _ wd87)) (fun _ h => h) rfl hd kk
theorem krX6_42_X6_indexOf {n : Nat} {a0 : Int32} {a1 : Int32} {q : (Int32 × StT)} (F : CallFix p m c cc nL s args (cw :: Gw) RX6) (K : va_K D vwCl (tyL cy) s) (E : EV ee A s s.heap) (hA : ∀ q, s.heap.size ≤ q → A q) (Z : ZG D (wC ad cy st) A s H locs) (hf : f_X6_indexOf n st a0 a1 = some q) (hR : 2 ≤ R.frames ∧ 45 ≤ R.locals) (hl : ls.size = nL) (hst : (rest.map fun v => v.category).sum ≤ 8) (hd : decode cc pc = .ok (.invokevirtual 42, 3)) (kk : ∀ (H1 : Heap) (locs1 : List Loc), ZG D (wC ad cy q.2) A s H1 locs1 → W p l e R s m args below meth c H1 locs1 0 0 Q (F0 m (pc + 3) ls (.int q.1 :: rest))) : W p l e R s m args below meth c H locs 0 0 Q (F0 m pc ls (.int a1 :: .int a0 :: .ref (ad 30) :: rest)) :=
  call_V (q := (RX6, TX6, 5)) (n := 2) (As := [.int a0, .int a1]) (rv := some (.int q.1)) 30 6 F K E hA Z (c_X6_indexOf (l := l) (D := D) (ad := ad) (cy := cy) (ee := ee) hf) ⟨wd90, wd89, wd91, wd92, wd78⟩ (by decide +kernel) rfl rfl hR rfl hl hst hd kk
end
set_option maxRecDepth 100000 in
set_option maxHeartbeats 4000000 in
theorem c_X6_comes {l : Launch} {D : va_G} {ad : Nat → Nat} {cy : Nat → ClassId} {ee : EE} {n : Nat} {st : StT} {x1 : Int32} {x2 : Int32} {x3 : Int32} {res : (Int32 × StT)} (hf : f_X6_comes n st x1 x2 x3 = some res) : CT l yX6_comes cX6_comes 4 (some .boolean) 2 45 D cy ee (wC ad cy st) (wC ad cy res.2) [.ref (ad 30), .int x1, .int x2, .int x3] (some (.int res.1)) := by
  refine CT.of (by decide +kernel) (Nat.le_of_ble_eq_true rfl) ?_
  intro p e s m args below meth c A F hr hk K E hA Z ls hl
  have hl : lv_has ls 4 [(0, .ref (ad 30)), (1, .int x1), (2, .int x2), (3, .int x3)] := hl
  have hx := F.1
  have hb := F.2.1
  unfold f_X6_comes at hf
  refine lv_aload_n hx hb dX6_comes_0 rfl (lv_at hl 0 rfl) ?_
  refine lv_iload_n hx hb dX6_comes_1 rfl (lv_at hl 1 rfl) ?_
  refine lv_iload_n hx hb dX6_comes_2 rfl (lv_at hl 2 rfl) ?_
  obtain ⟨q3, h3, hf⟩ := bind_some hf
  refine krX6_42_X6_indexOf F K E hA Z h3 ⟨Nat.le_of_ble_eq_true rfl, Nat.le_of_ble_eq_true rfl⟩ hl.1 (Nat.le_of_ble_eq_true rfl) dX6_comes_3 (fun H locs Z => ?_)
  refine lv_if_lt (tgt := 11) hx hb dX6_comes_6 (by decide) (fun c6 => ?_) (fun c6 => ?_)
  · have hf := if_t c6 hf
    refine lv_iload_n hx hb dX6_comes_11 rfl (lv_at hl 1 rfl) ?_
    obtain ⟨q12, h12, hf⟩ := bind_some hf
    refine krX6_24_X6_isRow F K E hA Z h12 ⟨Nat.le_of_ble_eq_true rfl, Nat.le_of_ble_eq_true rfl⟩ hl.1 (Nat.le_of_ble_eq_true rfl) dX6_comes_12 (fun H locs Z => ?_)
    refine lv_if_eq (tgt := 38) hx hb dX6_comes_15 (by decide) (fun c15 => ?_) (fun c15 => ?_)
    · have hf := if_t c15 hf
      refine lv_iconst (v := 0) hx hb dX6_comes_38 (by decide) ?_
      have hf := Option.some.inj hf
      subst hf
      exact ret_z F hr hk Z rfl dX6_comes_39
    have hf := if_f c15 hf
    refine lv_aload_n hx hb dX6_comes_18 rfl (lv_at hl 0 rfl) ?_
    refine grX6_18_30 F K Z dX6_comes_19 ?_
    refine lv_iload_n hx hb dX6_comes_22 rfl (lv_at hl 1 rfl) ?_
    obtain ⟨i23, hf⟩ := if_some hf
    refine al33 F K Z i23 dX6_comes_23 ?_
    refine lv_if_lt (tgt := 38) hx hb dX6_comes_24 (by decide) (fun c24 => ?_) (fun c24 => ?_)
    · have hf := if_t c24 hf
      refine lv_iconst (v := 0) hx hb dX6_comes_38 (by decide) ?_
      have hf := Option.some.inj hf
      subst hf
      exact ret_z F hr hk Z rfl dX6_comes_39
    have hf := if_f c24 hf
    refine lv_aload_n hx hb dX6_comes_27 rfl (lv_at hl 0 rfl) ?_
    refine grX6_18_30 F K Z dX6_comes_28 ?_
    refine lv_iload_n hx hb dX6_comes_31 rfl (lv_at hl 1 rfl) ?_
    obtain ⟨i32, hf⟩ := if_some hf
    refine al33 F K Z i32 dX6_comes_32 ?_
    refine lv_bipush (v := 60) hx hb dX6_comes_33 (by decide) ?_
    refine lv_icmp_lt (tgt := 40) hx hb dX6_comes_35 (by decide) (fun c35 => ?_) (fun c35 => ?_)
    · have hf := if_t c35 hf
      refine lv_aload_n hx hb dX6_comes_40 rfl (lv_at hl 0 rfl) ?_
      refine grX6_11_30 F K Z dX6_comes_41 ?_
      refine lv_iload_n hx hb dX6_comes_44 rfl (lv_at hl 1 rfl) ?_
      refine lv_bipush (v := 60) hx hb dX6_comes_45 (by decide) ?_
      refine lv_imul hx hb dX6_comes_47 ?_
      refine lv_aload_n hx hb dX6_comes_48 rfl (lv_at hl 0 rfl) ?_
      refine grX6_18_30 F K Z dX6_comes_49 ?_
      refine lv_iload_n hx hb dX6_comes_52 rfl (lv_at hl 1 rfl) ?_
      obtain ⟨i53, hf⟩ := if_some hf
      refine al33 F K Z i53 dX6_comes_53 ?_
      refine lv_iadd hx hb dX6_comes_54 ?_
      refine lv_iload_n hx hb dX6_comes_55 rfl (lv_at hl 2 rfl) ?_
      obtain ⟨i56, hf⟩ := if_some hf
      refine as31 F K Z i56 dX6_comes_56 (fun H locs Z => ?_)
      refine lv_aload_n hx hb dX6_comes_57 rfl (lv_at hl 0 rfl) ?_
      refine grX6_15_30 F K Z dX6_comes_58 ?_
      refine lv_iload_n hx hb dX6_comes_61 rfl (lv_at hl 1 rfl) ?_
      refine lv_bipush (v := 60) hx hb dX6_comes_62 (by decide) ?_
      refine lv_imul hx hb dX6_comes_64 ?_
      refine lv_aload_n hx hb dX6_comes_65 rfl (lv_at hl 0 rfl) ?_
      refine grX6_18_30 F K Z dX6_comes_66 ?_
      refine lv_iload_n hx hb dX6_comes_69 rfl (lv_at hl 1 rfl) ?_
      obtain ⟨i70, hf⟩ := if_some hf
      refine al33 F K Z i70 dX6_comes_70 ?_
      refine lv_iadd hx hb dX6_comes_71 ?_
      refine lv_iload_n hx hb dX6_comes_72 rfl (lv_at hl 3 rfl) ?_
      obtain ⟨i73, hf⟩ := if_some hf
      refine as32 F K Z i73 dX6_comes_73 (fun H locs Z => ?_)
      refine lv_aload_n hx hb dX6_comes_74 rfl (lv_at hl 0 rfl) ?_
      refine grX6_18_30 F K Z dX6_comes_75 ?_
      refine lv_iload_n hx hb dX6_comes_78 rfl (lv_at hl 1 rfl) ?_
      refine lv_dup2_11 hx hb dX6_comes_79 rfl rfl ?_
      obtain ⟨i80, hf⟩ := if_some hf
      refine al33 F K Z i80 dX6_comes_80 ?_
      refine lv_iconst (v := 1) hx hb dX6_comes_81 (by decide) ?_
      refine lv_iadd hx hb dX6_comes_82 ?_
      obtain ⟨i83, hf⟩ := if_some hf
      refine as33 F K Z i83 dX6_comes_83 (fun H locs Z => ?_)
      refine lv_aload_n hx hb dX6_comes_84 rfl (lv_at hl 0 rfl) ?_
      refine lv_aload_n hx hb dX6_comes_85 rfl (lv_at hl 0 rfl) ?_
      refine grX6_38_30 F K Z dX6_comes_86 ?_
      refine lv_aload_n hx hb dX6_comes_89 rfl (lv_at hl 0 rfl) ?_
      refine grX6_18_30 F K Z dX6_comes_90 ?_
      refine lv_iload_n hx hb dX6_comes_93 rfl (lv_at hl 1 rfl) ?_
      obtain ⟨i94, hf⟩ := if_some hf
      refine al33 F K Z i94 dX6_comes_94 ?_
      refine mth_max F (F.2.2.2.2 _ (List.mem_cons_of_mem _ wd88)) hl.1 (Nat.le_of_ble_eq_true rfl) (Nat.le_of_ble_eq_true rfl) dX6_comes_95 ?_
      refine prX6_38_30 F K Z dX6_comes_98 (fun H locs Z => ?_)
      refine lv_iconst (v := 1) hx hb dX6_comes_101 (by decide) ?_
      have hf := Option.some.inj hf
      subst hf
      exact ret_z F hr hk Z rfl dX6_comes_102
    have hf := if_f c35 hf
    refine lv_iconst (v := 0) hx hb dX6_comes_38 (by decide) ?_
    have hf := Option.some.inj hf
    subst hf
    exact ret_z F hr hk Z rfl dX6_comes_39
  have hf := if_f c6 hf
  refine lv_iconst (v := 1) hx hb dX6_comes_9 (by decide) ?_
  have hf := Option.some.inj hf
  subst hf
  exact ret_z F hr hk Z rfl dX6_comes_10
def f_X4_drop (n : Nat) (st : StT) : Option StT := some (uF st 18 (0 : Int32))
theorem wd93 : Cond.laysFinal RX4 "WorldProver$Refutations" "forced" "[I" ∈ Gw := gT2 (List.mem_of_getElem? (i := 8) rfl) rfl
theorem wd94 : Cond.laysFinal RX4 "WorldProver$Refutations" "children" "[I" ∈ Gw := gT2 (List.mem_of_getElem? (i := 10) rfl) rfl
theorem wd95 : Cond.laysFinal RX4 "WorldProver$Refutations" "siblings" "[I" ∈ Gw := gT2 (List.mem_of_getElem? (i := 12) rfl) rfl
theorem wd96 : Cond.laysFinal RX4 "WorldProver$Refutations" "totals" "[I" ∈ Gw := gT2 (List.mem_of_getElem? (i := 14) rfl) rfl
theorem wd97 : Cond.laysFinal RX4 "WorldProver$Refutations" "firsts" "[I" ∈ Gw := gT2 (List.mem_of_getElem? (i := 16) rfl) rfl
theorem wd98 : Cond.laysFinal RX4 "WorldProver$Refutations" "lasts" "[I" ∈ Gw := gT2 (List.mem_of_getElem? (i := 18) rfl) rfl
theorem wd99 : Cond.lays RX4 "WorldProver$Refutations" "many" "I" ∈ Gw := gT2 (List.mem_of_getElem? (i := 20) rfl) rfl
theorem wd100 : Cond.fieldLink RX4 30 "WorldProver$Refutations" "many" "I" ∈ Gw := gT2 (List.mem_of_getElem? (i := 7) rfl) rfl
theorem inG_X4 : ∀ w ∈ u_ws RX4 TX4 7, w ∈ Gw := by
  intro w h
  obtain ⟨k, hk, rfl⟩ := List.mem_map.mp h
  have hk := List.mem_range.mp hk
  by_cases h0 : k = 0
  · subst h0; exact wd93
  by_cases h1 : k = 1
  · subst h1; exact wd94
  by_cases h2 : k = 2
  · subst h2; exact wd95
  by_cases h3 : k = 3
  · subst h3; exact wd96
  by_cases h4 : k = 4
  · subst h4; exact wd97
  by_cases h5 : k = 5
  · subst h5; exact wd98
  by_cases h6 : k = 6
  · subst h6; exact wd99
  omega
section
variable {p : Program} {l : Launch} {e : Env} {R : Room} {s : State} {m : MethodId} {args : Array Value} {below : List Frame} {meth : Method} {c : Code} {H : Heap} {locs : List Loc} {Q : State → Prop}
variable {cc : ByteArray} {nL pc : Nat} {ls : Array Slot} {rest : List Value} {D : va_G} {A : Nat → Prop} {cw : Cond} {ad : Nat → Nat} {cy : Nat → ClassId} {ee : EE} {st : StT} {own : String}
theorem prX4_30_35 {v : Int32} (F : CallFix p m c cc nL s args (cw :: Gw) RX4) (K : va_K D vwCl (tyL cy) s) (Z : ZG D (wC ad cy st) A s H locs) (hd : decode cc pc = .ok (.putfield 30, 3)) (kk : ∀ (H1 : Heap) (locs1 : List Loc), ZG D (wC ad cy (uF st 18 v)) A s H1 locs1 → W p l e R s m args below meth c H1 locs1 0 0 Q (F0 m (pc + 3) ls rest)) : W p l e R s m args below meth c H locs 0 0 Q (F0 m pc ls (.int v :: .ref (ad 35) :: rest)) :=
  va_put (D := D) (ci := 4) (v := .int v) (ty := .int) (C := RX4) (T := TX4) (N := 7) F.1 F.2.1 F.2.2.2.2 (fun w h => List.mem_cons_of_mem _ (inG_X4 w h)) tyX4 tyX4_ok nmX4 F.2.2.2.1 K Z.1 Z.2.1 Z.2.2 35 rfl rfl 6 (by decide) (F.2.2.2.2 _ (List.mem_cons_of_mem _ wd100)) (fun _ h => h) rfl (by decide +kernel) rfl rfl (Nat.le_of_ble_eq_true rfl) hd (fun H1 locs1 hP hD hS => kk H1 locs1 ⟨hP, hD, hS⟩)
end
set_option maxRecDepth 100000 in
set_option maxHeartbeats 4000000 in
theorem c_X4_drop {l : Launch} {D : va_G} {ad : Nat → Nat} {cy : Nat → ClassId} {ee : EE} {n : Nat} {st : StT} {res : StT} (hf : f_X4_drop n st = some res) : CT l yX4_drop cX4_drop 1 none 0 0 D cy ee (wC ad cy st) (wC ad cy res) [.ref (ad 35)] (none) := by
  refine CT.of (by decide +kernel) (Nat.le_of_ble_eq_true rfl) ?_
  intro p e s m args below meth c A F hr hk K E hA Z ls hl
  have hl : lv_has ls 1 [(0, .ref (ad 35))] := hl
  have hx := F.1
  have hb := F.2.1
  unfold f_X4_drop at hf
  refine lv_aload_n hx hb dX4_drop_0 rfl (lv_at hl 0 rfl) ?_
  refine lv_iconst (v := 0) hx hb dX4_drop_1 (by decide) ?_
  refine prX4_30_35 F K Z dX4_drop_2 (fun H locs Z => ?_)
  have hf := Option.some.inj hf
  subst hf
  exact ret_v F hr hk Z dX4_drop_5
def f_X4_has (n : Nat) (st : StT) (x1 : Int32) : Option (Int32 × StT) := if x1 < 0 then (some ((0 : Int32), st)) else (if (st.1 18) ≤ x1 then (some ((0 : Int32), st)) else (if (2000 : Int32) ≤ x1 then (some ((0 : Int32), st)) else (some ((1 : Int32), st))))
section
variable {p : Program} {l : Launch} {e : Env} {R : Room} {s : State} {m : MethodId} {args : Array Value} {below : List Frame} {meth : Method} {c : Code} {H : Heap} {locs : List Loc} {Q : State → Prop}
variable {cc : ByteArray} {nL pc : Nat} {ls : Array Slot} {rest : List Value} {D : va_G} {A : Nat → Prop} {cw : Cond} {ad : Nat → Nat} {cy : Nat → ClassId} {ee : EE} {st : StT} {own : String}
theorem grX4_30_35 (F : CallFix p m c cc nL s args (cw :: Gw) RX4) (K : va_K D vwCl (tyL cy) s) (Z : ZG D (wC ad cy st) A s H locs) (hd : decode cc pc = .ok (.getfield 30, 3)) (kk : W p l e R s m args below meth c H locs 0 0 Q (F0 m (pc + 3) ls (.int (st.1 18) :: rest))) : W p l e R s m args below meth c H locs 0 0 Q (F0 m pc ls (.ref (ad 35) :: rest)) :=
  va_get (D := D) (ci := 4) (C := RX4) (T := TX4) (N := 7) F.1 F.2.1 F.2.2.2.2 (fun w h => List.mem_cons_of_mem _ (inG_X4 w h)) F.2.2.2.1 K Z.1 35 rfl rfl 6 (by decide) (F.2.2.2.2 _ (List.mem_cons_of_mem _ wd100)) (fun _ h => h) rfl hd kk
end
set_option maxRecDepth 100000 in
set_option maxHeartbeats 4000000 in
theorem c_X4_has {l : Launch} {D : va_G} {ad : Nat → Nat} {cy : Nat → ClassId} {ee : EE} {n : Nat} {st : StT} {x1 : Int32} {res : (Int32 × StT)} (hf : f_X4_has n st x1 = some res) : CT l yX4_has cX4_has 2 (some .boolean) 0 0 D cy ee (wC ad cy st) (wC ad cy res.2) [.ref (ad 35), .int x1] (some (.int res.1)) := by
  refine CT.of (by decide +kernel) (Nat.le_of_ble_eq_true rfl) ?_
  intro p e s m args below meth c A F hr hk K E hA Z ls hl
  have hl : lv_has ls 2 [(0, .ref (ad 35)), (1, .int x1)] := hl
  have hx := F.1
  have hb := F.2.1
  unfold f_X4_has at hf
  refine lv_iload_n hx hb dX4_has_0 rfl (lv_at hl 1 rfl) ?_
  refine lv_if_lt (tgt := 23) hx hb dX4_has_1 (by decide) (fun c1 => ?_) (fun c1 => ?_)
  · have hf := if_t c1 hf
    refine lv_iconst (v := 0) hx hb dX4_has_23 (by decide) ?_
    have hf := Option.some.inj hf
    subst hf
    exact ret_z F hr hk Z rfl dX4_has_24
  have hf := if_f c1 hf
  refine lv_iload_n hx hb dX4_has_4 rfl (lv_at hl 1 rfl) ?_
  refine lv_aload_n hx hb dX4_has_5 rfl (lv_at hl 0 rfl) ?_
  refine grX4_30_35 F K Z dX4_has_6 ?_
  refine lv_icmp_ge (tgt := 23) hx hb dX4_has_9 (by decide) (fun c9 => ?_) (fun c9 => ?_)
  · have hf := if_t c9 hf
    refine lv_iconst (v := 0) hx hb dX4_has_23 (by decide) ?_
    have hf := Option.some.inj hf
    subst hf
    exact ret_z F hr hk Z rfl dX4_has_24
  have hf := if_f c9 hf
  refine lv_iload_n hx hb dX4_has_12 rfl (lv_at hl 1 rfl) ?_
  refine lv_sipush (v := 2000) hx hb dX4_has_13 (by decide) ?_
  refine lv_icmp_ge (tgt := 23) hx hb dX4_has_16 (by decide) (fun c16 => ?_) (fun c16 => ?_)
  · have hf := if_t c16 hf
    refine lv_iconst (v := 0) hx hb dX4_has_23 (by decide) ?_
    have hf := Option.some.inj hf
    subst hf
    exact ret_z F hr hk Z rfl dX4_has_24
  have hf := if_f c16 hf
  refine lv_iconst (v := 1) hx hb dX4_has_19 (by decide) ?_
  refine lv_goto (tgt := 24) hx hb dX4_has_20 (by decide) ?_
  have hf := Option.some.inj hf
  subst hf
  exact ret_z F hr hk Z rfl dX4_has_24
def f_X4_begin (n : Nat) (st : StT) (x1 : Int32) : Option StT := if x1 < 0 then (some st) else (if (200 : Int32) ≤ x1 then (some st) else (if inB x1 200 = true then (if inB x1 200 = true then (some (uA (uA st 29 x1 (-1 : Int32)) 30 x1 (-1 : Int32))) else none) else none))
theorem wd101 : Cond.fieldLink RX4 24 "WorldProver$Refutations" "firsts" "[I" ∈ Gw := gT2 (List.mem_of_getElem? (i := 5) rfl) rfl
theorem wd102 : Cond.fieldLink RX4 27 "WorldProver$Refutations" "lasts" "[I" ∈ Gw := gT2 (List.mem_of_getElem? (i := 6) rfl) rfl
section
variable {p : Program} {l : Launch} {e : Env} {R : Room} {s : State} {m : MethodId} {args : Array Value} {below : List Frame} {meth : Method} {c : Code} {H : Heap} {locs : List Loc} {Q : State → Prop}
variable {cc : ByteArray} {nL pc : Nat} {ls : Array Slot} {rest : List Value} {D : va_G} {A : Nat → Prop} {cw : Cond} {ad : Nat → Nat} {cy : Nat → ClassId} {ee : EE} {st : StT} {own : String}
theorem grX4_24_35 (F : CallFix p m c cc nL s args (cw :: Gw) RX4) (K : va_K D vwCl (tyL cy) s) (Z : ZG D (wC ad cy st) A s H locs) (hd : decode cc pc = .ok (.getfield 24, 3)) (kk : W p l e R s m args below meth c H locs 0 0 Q (F0 m (pc + 3) ls (.ref (ad 40) :: rest))) : W p l e R s m args below meth c H locs 0 0 Q (F0 m pc ls (.ref (ad 35) :: rest)) :=
  va_get (D := D) (ci := 4) (C := RX4) (T := TX4) (N := 7) F.1 F.2.1 F.2.2.2.2 (fun w h => List.mem_cons_of_mem _ (inG_X4 w h)) F.2.2.2.1 K Z.1 35 rfl rfl 4 (by decide) (F.2.2.2.2 _ (List.mem_cons_of_mem _ wd101)) (fun _ h => h) rfl hd kk
theorem as40 {i : Int32} {v : Int32} (F : CallFix p m c cc nL s args (cw :: Gw) own) (K : va_K D vwCl (tyL cy) s) (Z : ZG D (wC ad cy st) A s H locs) (hi : inB i 200 = true) (hd : decode cc pc = .ok (.iastore, 1)) (kk : ∀ (H1 : Heap) (locs1 : List Loc), ZG D (wC ad cy (uA st 29 i v)) A s H1 locs1 → W p l e R s m args below meth c H1 locs1 0 0 Q (F0 m (pc + 1) ls rest)) : W p l e R s m args below meth c H locs 0 0 Q (F0 m pc ls (.int v :: .int i :: .ref (ad 40) :: rest)) :=
  va_iast F.1 F.2.1 K Z.1 Z.2.1 Z.2.2 40 1 rfl rfl (inB_vp hi) hd (fun H1 locs1 hP hD hS => kk H1 locs1 ⟨hP, hD, hS⟩)
theorem grX4_27_35 (F : CallFix p m c cc nL s args (cw :: Gw) RX4) (K : va_K D vwCl (tyL cy) s) (Z : ZG D (wC ad cy st) A s H locs) (hd : decode cc pc = .ok (.getfield 27, 3)) (kk : W p l e R s m args below meth c H locs 0 0 Q (F0 m (pc + 3) ls (.ref (ad 41) :: rest))) : W p l e R s m args below meth c H locs 0 0 Q (F0 m pc ls (.ref (ad 35) :: rest)) :=
  va_get (D := D) (ci := 4) (C := RX4) (T := TX4) (N := 7) F.1 F.2.1 F.2.2.2.2 (fun w h => List.mem_cons_of_mem _ (inG_X4 w h)) F.2.2.2.1 K Z.1 35 rfl rfl 5 (by decide) (F.2.2.2.2 _ (List.mem_cons_of_mem _ wd102)) (fun _ h => h) rfl hd kk
theorem as41 {i : Int32} {v : Int32} (F : CallFix p m c cc nL s args (cw :: Gw) own) (K : va_K D vwCl (tyL cy) s) (Z : ZG D (wC ad cy st) A s H locs) (hi : inB i 200 = true) (hd : decode cc pc = .ok (.iastore, 1)) (kk : ∀ (H1 : Heap) (locs1 : List Loc), ZG D (wC ad cy (uA st 30 i v)) A s H1 locs1 → W p l e R s m args below meth c H1 locs1 0 0 Q (F0 m (pc + 1) ls rest)) : W p l e R s m args below meth c H locs 0 0 Q (F0 m pc ls (.int v :: .int i :: .ref (ad 41) :: rest)) :=
  va_iast F.1 F.2.1 K Z.1 Z.2.1 Z.2.2 41 1 rfl rfl (inB_vp hi) hd (fun H1 locs1 hP hD hS => kk H1 locs1 ⟨hP, hD, hS⟩)
end
set_option maxRecDepth 100000 in
set_option maxHeartbeats 4000000 in
theorem c_X4_begin {l : Launch} {D : va_G} {ad : Nat → Nat} {cy : Nat → ClassId} {ee : EE} {n : Nat} {st : StT} {x1 : Int32} {res : StT} (hf : f_X4_begin n st x1 = some res) : CT l yX4_begin cX4_begin 2 none 0 0 D cy ee (wC ad cy st) (wC ad cy res) [.ref (ad 35), .int x1] (none) := by
  refine CT.of (by decide +kernel) (Nat.le_of_ble_eq_true rfl) ?_
  intro p e s m args below meth c A F hr hk K E hA Z ls hl
  have hl : lv_has ls 2 [(0, .ref (ad 35)), (1, .int x1)] := hl
  have hx := F.1
  have hb := F.2.1
  unfold f_X4_begin at hf
  refine lv_iload_n hx hb dX4_begin_0 rfl (lv_at hl 1 rfl) ?_
  refine lv_if_lt (tgt := 25) hx hb dX4_begin_1 (by decide) (fun c1 => ?_) (fun c1 => ?_)
  · have hf := if_t c1 hf
    have hf := Option.some.inj hf
    subst hf
    exact ret_v F hr hk Z dX4_begin_25
  have hf := if_f c1 hf
  refine lv_iload_n hx hb dX4_begin_4 rfl (lv_at hl 1 rfl) ?_
  refine lv_sipush (v := 200) hx hb dX4_begin_5 (by decide) ?_
  refine lv_icmp_ge (tgt := 25) hx hb dX4_begin_8 (by decide) (fun c8 => ?_) (fun c8 => ?_)
  · have hf := if_t c8 hf
    have hf := Option.some.inj hf
    subst hf
    exact ret_v F hr hk Z dX4_begin_25
  have hf := if_f c8 hf
  refine lv_aload_n hx hb dX4_begin_11 rfl (lv_at hl 0 rfl) ?_
  refine grX4_24_35 F K Z dX4_begin_12 ?_
  refine lv_iload_n hx hb dX4_begin_15 rfl (lv_at hl 1 rfl) ?_
  refine lv_iconst (v := -1) hx hb dX4_begin_16 (by decide) ?_
  obtain ⟨i17, hf⟩ := if_some hf
  refine as40 F K Z i17 dX4_begin_17 (fun H locs Z => ?_)
  refine lv_aload_n hx hb dX4_begin_18 rfl (lv_at hl 0 rfl) ?_
  refine grX4_27_35 F K Z dX4_begin_19 ?_
  refine lv_iload_n hx hb dX4_begin_22 rfl (lv_at hl 1 rfl) ?_
  refine lv_iconst (v := -1) hx hb dX4_begin_23 (by decide) ?_
  obtain ⟨i24, hf⟩ := if_some hf
  refine as41 F K Z i24 dX4_begin_24 (fun H locs Z => ?_)
  have hf := Option.some.inj hf
  subst hf
  exact ret_v F hr hk Z dX4_begin_25
def f_X4_adopt (n : Nat) (st : StT) (x1 : Int32) (x2 : Int32) : Option StT := if x1 < 0 then (some st) else (if (200 : Int32) ≤ x1 then (some st) else ((f_X4_has n st x2).bind fun q13 => (if q13.1 = 0 then (some q13.2) else (if inB x1 200 = true then ((f_X4_has n q13.2 (q13.2.2.1 30 (x1).toNatClampNeg)).bind fun q27 => (if q27.1 = 0 then (if inB x1 200 = true then (if inB x1 200 = true then (some (uA (uA q27.2 29 x1 x2) 30 x1 x2)) else none) else none) else (if inB x1 200 = true then (if inB (q27.2.2.1 30 (x1).toNatClampNeg) 2000 = true then (if inB x1 200 = true then (some (uA (uA q27.2 27 (q27.2.2.1 30 (x1).toNatClampNeg) x2) 30 x1 x2)) else none) else none) else none))) else none))))
theorem wd103 : Cond.fieldLink RX4 18 "WorldProver$Refutations" "siblings" "[I" ∈ Gw := gT2 (List.mem_of_getElem? (i := 3) rfl) rfl
theorem wd104 : Cond.methodLink RX4 34 yX4_has ∈ Gw := gT4 (List.mem_of_getElem? (i := 207) rfl) rfl
theorem wd105 : Cond.code yX4_has prog_6_method_3_code 2 (some .boolean) ∈ Gw := gT4 (List.mem_of_getElem? (i := 210) rfl) rfl
theorem wd106 : Cond.instanceMethod yX4_has ∈ Gw := gT4 (List.mem_of_getElem? (i := 208) rfl) rfl
theorem wd107 : Cond.selects RX4 yX4_has yX4_has ∈ Gw := gT4 (List.mem_of_getElem? (i := 209) rfl) rfl
theorem wd108 : Cond.initialized RX4 ∈ Gw := gT1 (List.mem_of_getElem? (i := 10) rfl) rfl
section
variable {p : Program} {l : Launch} {e : Env} {R : Room} {s : State} {m : MethodId} {args : Array Value} {below : List Frame} {meth : Method} {c : Code} {H : Heap} {locs : List Loc} {Q : State → Prop}
variable {cc : ByteArray} {nL pc : Nat} {ls : Array Slot} {rest : List Value} {D : va_G} {A : Nat → Prop} {cw : Cond} {ad : Nat → Nat} {cy : Nat → ClassId} {ee : EE} {st : StT} {own : String}
theorem al41 {i : Int32} (F : CallFix p m c cc nL s args (cw :: Gw) own) (K : va_K D vwCl (tyL cy) s) (Z : ZG D (wC ad cy st) A s H locs) (hi : inB i 200 = true) (hd : decode cc pc = .ok (.iaload, 1)) (kk : W p l e R s m args below meth c H locs 0 0 Q (F0 m (pc + 1) ls (.int (st.2.1 30 i.toNatClampNeg) :: rest))) : W p l e R s m args below meth c H locs 0 0 Q (F0 m pc ls (.int i :: .ref (ad 41) :: rest)) :=
  va_iald F.1 F.2.1 K Z.1 41 1 rfl rfl (inB_vp hi) hd kk
theorem grX4_18_35 (F : CallFix p m c cc nL s args (cw :: Gw) RX4) (K : va_K D vwCl (tyL cy) s) (Z : ZG D (wC ad cy st) A s H locs) (hd : decode cc pc = .ok (.getfield 18, 3)) (kk : W p l e R s m args below meth c H locs 0 0 Q (F0 m (pc + 3) ls (.ref (ad 38) :: rest))) : W p l e R s m args below meth c H locs 0 0 Q (F0 m pc ls (.ref (ad 35) :: rest)) :=
  va_get (D := D) (ci := 4) (C := RX4) (T := TX4) (N := 7) F.1 F.2.1 F.2.2.2.2 (fun w h => List.mem_cons_of_mem _ (inG_X4 w h)) F.2.2.2.1 K Z.1 35 rfl rfl 2 (by decide) (F.2.2.2.2 _ (List.mem_cons_of_mem _ wd103)) (fun _ h => h) rfl hd kk
theorem as38 {i : Int32} {v : Int32} (F : CallFix p m c cc nL s args (cw :: Gw) own) (K : va_K D vwCl (tyL cy) s) (Z : ZG D (wC ad cy st) A s H locs) (hi : inB i 2000 = true) (hd : decode cc pc = .ok (.iastore, 1)) (kk : ∀ (H1 : Heap) (locs1 : List Loc), ZG D (wC ad cy (uA st 27 i v)) A s H1 locs1 → W p l e R s m args below meth c H1 locs1 0 0 Q (F0 m (pc + 1) ls rest)) : W p l e R s m args below meth c H locs 0 0 Q (F0 m pc ls (.int v :: .int i :: .ref (ad 38) :: rest)) :=
  va_iast F.1 F.2.1 K Z.1 Z.2.1 Z.2.2 38 1 rfl rfl (inB_vp hi) hd (fun H1 locs1 hP hD hS => kk H1 locs1 ⟨hP, hD, hS⟩)
theorem krX4_34_X4_has {n : Nat} {a0 : Int32} {q : (Int32 × StT)} (F : CallFix p m c cc nL s args (cw :: Gw) RX4) (K : va_K D vwCl (tyL cy) s) (E : EV ee A s s.heap) (hA : ∀ q, s.heap.size ≤ q → A q) (Z : ZG D (wC ad cy st) A s H locs) (hf : f_X4_has n st a0 = some q) (hR : 1 ≤ R.frames ∧ 21 ≤ R.locals) (hl : ls.size = nL) (hst : (rest.map fun v => v.category).sum ≤ 8) (hd : decode cc pc = .ok (.invokevirtual 34, 3)) (kk : ∀ (H1 : Heap) (locs1 : List Loc), ZG D (wC ad cy q.2) A s H1 locs1 → W p l e R s m args below meth c H1 locs1 0 0 Q (F0 m (pc + 3) ls (.int q.1 :: rest))) : W p l e R s m args below meth c H locs 0 0 Q (F0 m pc ls (.int a0 :: .ref (ad 35) :: rest)) :=
  call_V (q := (RX4, TX4, 7)) (n := 1) (As := [.int a0]) (rv := some (.int q.1)) 35 4 F K E hA Z (c_X4_has (l := l) (D := D) (ad := ad) (cy := cy) (ee := ee) hf) ⟨wd105, wd104, wd106, wd107, wd108⟩ (by decide +kernel) rfl rfl hR rfl hl hst hd kk
end
set_option maxRecDepth 100000 in
set_option maxHeartbeats 4000000 in
theorem c_X4_adopt {l : Launch} {D : va_G} {ad : Nat → Nat} {cy : Nat → ClassId} {ee : EE} {n : Nat} {st : StT} {x1 : Int32} {x2 : Int32} {res : StT} (hf : f_X4_adopt n st x1 x2 = some res) : CT l yX4_adopt cX4_adopt 3 none 1 21 D cy ee (wC ad cy st) (wC ad cy res) [.ref (ad 35), .int x1, .int x2] (none) := by
  refine CT.of (by decide +kernel) (Nat.le_of_ble_eq_true rfl) ?_
  intro p e s m args below meth c A F hr hk K E hA Z ls hl
  have hl : lv_has ls 3 [(0, .ref (ad 35)), (1, .int x1), (2, .int x2)] := hl
  have hx := F.1
  have hb := F.2.1
  unfold f_X4_adopt at hf
  refine lv_iload_n hx hb dX4_adopt_0 rfl (lv_at hl 1 rfl) ?_
  refine lv_if_lt (tgt := 19) hx hb dX4_adopt_1 (by decide) (fun c1 => ?_) (fun c1 => ?_)
  · have hf := if_t c1 hf
    have hf := Option.some.inj hf
    subst hf
    exact ret_v F hr hk Z dX4_adopt_19
  have hf := if_f c1 hf
  refine lv_iload_n hx hb dX4_adopt_4 rfl (lv_at hl 1 rfl) ?_
  refine lv_sipush (v := 200) hx hb dX4_adopt_5 (by decide) ?_
  refine lv_icmp_ge (tgt := 19) hx hb dX4_adopt_8 (by decide) (fun c8 => ?_) (fun c8 => ?_)
  · have hf := if_t c8 hf
    have hf := Option.some.inj hf
    subst hf
    exact ret_v F hr hk Z dX4_adopt_19
  have hf := if_f c8 hf
  refine lv_aload_n hx hb dX4_adopt_11 rfl (lv_at hl 0 rfl) ?_
  refine lv_iload_n hx hb dX4_adopt_12 rfl (lv_at hl 2 rfl) ?_
  obtain ⟨q13, h13, hf⟩ := bind_some hf
  refine krX4_34_X4_has F K E hA Z h13 ⟨Nat.le_of_ble_eq_true rfl, Nat.le_of_ble_eq_true rfl⟩ hl.1 (Nat.le_of_ble_eq_true rfl) dX4_adopt_13 (fun H locs Z => ?_)
  refine lv_if_ne (tgt := 20) hx hb dX4_adopt_16 (by decide) (fun c16 => ?_) (fun c16 => ?_)
  · have hf := if_f c16 hf
    refine lv_aload_n hx hb dX4_adopt_20 rfl (lv_at hl 0 rfl) ?_
    refine lv_aload_n hx hb dX4_adopt_21 rfl (lv_at hl 0 rfl) ?_
    refine grX4_27_35 F K Z dX4_adopt_22 ?_
    refine lv_iload_n hx hb dX4_adopt_25 rfl (lv_at hl 1 rfl) ?_
    obtain ⟨i26, hf⟩ := if_some hf
    refine al41 F K Z i26 dX4_adopt_26 ?_
    obtain ⟨q27, h27, hf⟩ := bind_some hf
    refine krX4_34_X4_has F K E hA Z h27 ⟨Nat.le_of_ble_eq_true rfl, Nat.le_of_ble_eq_true rfl⟩ hl.1 (Nat.le_of_ble_eq_true rfl) dX4_adopt_27 (fun H locs Z => ?_)
    refine lv_if_eq (tgt := 48) hx hb dX4_adopt_30 (by decide) (fun c30 => ?_) (fun c30 => ?_)
    · have hf := if_t c30 hf
      refine lv_aload_n hx hb dX4_adopt_48 rfl (lv_at hl 0 rfl) ?_
      refine grX4_24_35 F K Z dX4_adopt_49 ?_
      refine lv_iload_n hx hb dX4_adopt_52 rfl (lv_at hl 1 rfl) ?_
      refine lv_iload_n hx hb dX4_adopt_53 rfl (lv_at hl 2 rfl) ?_
      obtain ⟨i54, hf⟩ := if_some hf
      refine as40 F K Z i54 dX4_adopt_54 (fun H locs Z => ?_)
      refine lv_aload_n hx hb dX4_adopt_55 rfl (lv_at hl 0 rfl) ?_
      refine grX4_27_35 F K Z dX4_adopt_56 ?_
      refine lv_iload_n hx hb dX4_adopt_59 rfl (lv_at hl 1 rfl) ?_
      refine lv_iload_n hx hb dX4_adopt_60 rfl (lv_at hl 2 rfl) ?_
      obtain ⟨i61, hf⟩ := if_some hf
      refine as41 F K Z i61 dX4_adopt_61 (fun H locs Z => ?_)
      have hf := Option.some.inj hf
      subst hf
      exact ret_v F hr hk Z dX4_adopt_62
    have hf := if_f c30 hf
    refine lv_aload_n hx hb dX4_adopt_33 rfl (lv_at hl 0 rfl) ?_
    refine grX4_18_35 F K Z dX4_adopt_34 ?_
    refine lv_aload_n hx hb dX4_adopt_37 rfl (lv_at hl 0 rfl) ?_
    refine grX4_27_35 F K Z dX4_adopt_38 ?_
    refine lv_iload_n hx hb dX4_adopt_41 rfl (lv_at hl 1 rfl) ?_
    obtain ⟨i42, hf⟩ := if_some hf
    refine al41 F K Z i42 dX4_adopt_42 ?_
    refine lv_iload_n hx hb dX4_adopt_43 rfl (lv_at hl 2 rfl) ?_
    obtain ⟨i44, hf⟩ := if_some hf
    refine as38 F K Z i44 dX4_adopt_44 (fun H locs Z => ?_)
    refine lv_goto (tgt := 55) hx hb dX4_adopt_45 (by decide) ?_
    refine lv_aload_n hx hb dX4_adopt_55 rfl (lv_at hl 0 rfl) ?_
    refine grX4_27_35 F K Z dX4_adopt_56 ?_
    refine lv_iload_n hx hb dX4_adopt_59 rfl (lv_at hl 1 rfl) ?_
    refine lv_iload_n hx hb dX4_adopt_60 rfl (lv_at hl 2 rfl) ?_
    obtain ⟨i61, hf⟩ := if_some hf
    refine as41 F K Z i61 dX4_adopt_61 (fun H locs Z => ?_)
    have hf := Option.some.inj hf
    subst hf
    exact ret_v F hr hk Z dX4_adopt_62
  have hf := if_t c16 hf
  have hf := Option.some.inj hf
  subst hf
  exact ret_v F hr hk Z dX4_adopt_19
def f_X4_add_86 (n : Nat) (st : StT) (x1 : Int32) (x2 : Int32) (x3 : Int32) : Option (Int32 × StT) := if inB (st.1 18) 2000 = true then (if inB x1 200 = true then (if inB (st.1 18) 2000 = true then (if inB (st.1 18) 2000 = true then (if inB (st.1 18) 2000 = true then (some ((st.1 18), (uF (uA (uA (uA (uA st 25 (st.1 18) x2) 26 (st.1 18) ((uA st 25 (st.1 18) x2).2.1 29 (x1).toNatClampNeg)) 27 (st.1 18) (-1 : Int32)) 28 (st.1 18) x3) 18 (((uA (uA (uA (uA st 25 (st.1 18) x2) 26 (st.1 18) ((uA st 25 (st.1 18) x2).2.1 29 (x1).toNatClampNeg)) 27 (st.1 18) (-1 : Int32)) 28 (st.1 18) x3).1 18) + (1 : Int32))))) else none) else none) else none) else none) else none
def f_X4_add_43 (n : Nat) : Nat → StT → Int32 → Int32 → Int32 → Int32 → Int32 → Option (Int32 × StT)
  | 0, _, _, _, _, _, _ => none
  | k + 1, st, x1, x2, x3, x4, x5 => if (st.1 18) ≤ x5 then (f_X4_add_86 n st x1 x2 x3) else ((f_X4_has n st x4).bind fun q55 => (if q55.1 = 0 then (f_X4_add_86 n q55.2 x1 x2 x3) else (if inB x4 2000 = true then (if inB x4 2000 = true then (f_X4_add_43 n k q55.2 x1 x2 (x3 + (q55.2.2.1 28 (x4).toNatClampNeg)) (q55.2.2.1 27 (x4).toNatClampNeg) (x5 + (1 : Int32))) else none) else none)))
def f_X4_add (n : Nat) (st : StT) (x1 : Int32) (x2 : Int32) : Option (Int32 × StT) := if x1 < 0 then (some ((-1 : Int32), st)) else (if (200 : Int32) ≤ x1 then (some ((-1 : Int32), st)) else (if (st.1 18) < 0 then (some ((-1 : Int32), st)) else (if (st.1 18) < (2000 : Int32) then (if inB x1 200 = true then (f_X4_add_43 n n st x1 x2 (1 : Int32) (st.2.1 29 (x1).toNatClampNeg) (0 : Int32)) else none) else (some ((-1 : Int32), st)))))
theorem wd109 : Cond.fieldLink RX4 21 "WorldProver$Refutations" "totals" "[I" ∈ Gw := gT2 (List.mem_of_getElem? (i := 4) rfl) rfl
theorem wd110 : Cond.fieldLink RX4 9 "WorldProver$Refutations" "forced" "[I" ∈ Gw := gT2 (List.mem_of_getElem? (i := 1) rfl) rfl
theorem wd111 : Cond.fieldLink RX4 15 "WorldProver$Refutations" "children" "[I" ∈ Gw := gT2 (List.mem_of_getElem? (i := 2) rfl) rfl
section
variable {p : Program} {l : Launch} {e : Env} {R : Room} {s : State} {m : MethodId} {args : Array Value} {below : List Frame} {meth : Method} {c : Code} {H : Heap} {locs : List Loc} {Q : State → Prop}
variable {cc : ByteArray} {nL pc : Nat} {ls : Array Slot} {rest : List Value} {D : va_G} {A : Nat → Prop} {cw : Cond} {ad : Nat → Nat} {cy : Nat → ClassId} {ee : EE} {st : StT} {own : String}
theorem al40 {i : Int32} (F : CallFix p m c cc nL s args (cw :: Gw) own) (K : va_K D vwCl (tyL cy) s) (Z : ZG D (wC ad cy st) A s H locs) (hi : inB i 200 = true) (hd : decode cc pc = .ok (.iaload, 1)) (kk : W p l e R s m args below meth c H locs 0 0 Q (F0 m (pc + 1) ls (.int (st.2.1 29 i.toNatClampNeg) :: rest))) : W p l e R s m args below meth c H locs 0 0 Q (F0 m pc ls (.int i :: .ref (ad 40) :: rest)) :=
  va_iald F.1 F.2.1 K Z.1 40 1 rfl rfl (inB_vp hi) hd kk
theorem grX4_21_35 (F : CallFix p m c cc nL s args (cw :: Gw) RX4) (K : va_K D vwCl (tyL cy) s) (Z : ZG D (wC ad cy st) A s H locs) (hd : decode cc pc = .ok (.getfield 21, 3)) (kk : W p l e R s m args below meth c H locs 0 0 Q (F0 m (pc + 3) ls (.ref (ad 39) :: rest))) : W p l e R s m args below meth c H locs 0 0 Q (F0 m pc ls (.ref (ad 35) :: rest)) :=
  va_get (D := D) (ci := 4) (C := RX4) (T := TX4) (N := 7) F.1 F.2.1 F.2.2.2.2 (fun w h => List.mem_cons_of_mem _ (inG_X4 w h)) F.2.2.2.1 K Z.1 35 rfl rfl 3 (by decide) (F.2.2.2.2 _ (List.mem_cons_of_mem _ wd109)) (fun _ h => h) rfl hd kk
theorem al39 {i : Int32} (F : CallFix p m c cc nL s args (cw :: Gw) own) (K : va_K D vwCl (tyL cy) s) (Z : ZG D (wC ad cy st) A s H locs) (hi : inB i 2000 = true) (hd : decode cc pc = .ok (.iaload, 1)) (kk : W p l e R s m args below meth c H locs 0 0 Q (F0 m (pc + 1) ls (.int (st.2.1 28 i.toNatClampNeg) :: rest))) : W p l e R s m args below meth c H locs 0 0 Q (F0 m pc ls (.int i :: .ref (ad 39) :: rest)) :=
  va_iald F.1 F.2.1 K Z.1 39 1 rfl rfl (inB_vp hi) hd kk
theorem al38 {i : Int32} (F : CallFix p m c cc nL s args (cw :: Gw) own) (K : va_K D vwCl (tyL cy) s) (Z : ZG D (wC ad cy st) A s H locs) (hi : inB i 2000 = true) (hd : decode cc pc = .ok (.iaload, 1)) (kk : W p l e R s m args below meth c H locs 0 0 Q (F0 m (pc + 1) ls (.int (st.2.1 27 i.toNatClampNeg) :: rest))) : W p l e R s m args below meth c H locs 0 0 Q (F0 m pc ls (.int i :: .ref (ad 38) :: rest)) :=
  va_iald F.1 F.2.1 K Z.1 38 1 rfl rfl (inB_vp hi) hd kk
theorem grX4_9_35 (F : CallFix p m c cc nL s args (cw :: Gw) RX4) (K : va_K D vwCl (tyL cy) s) (Z : ZG D (wC ad cy st) A s H locs) (hd : decode cc pc = .ok (.getfield 9, 3)) (kk : W p l e R s m args below meth c H locs 0 0 Q (F0 m (pc + 3) ls (.ref (ad 36) :: rest))) : W p l e R s m args below meth c H locs 0 0 Q (F0 m pc ls (.ref (ad 35) :: rest)) :=
  va_get (D := D) (ci := 4) (C := RX4) (T := TX4) (N := 7) F.1 F.2.1 F.2.2.2.2 (fun w h => List.mem_cons_of_mem _ (inG_X4 w h)) F.2.2.2.1 K Z.1 35 rfl rfl 0 (by decide) (F.2.2.2.2 _ (List.mem_cons_of_mem _ wd110)) (fun _ h => h) rfl hd kk
theorem as36 {i : Int32} {v : Int32} (F : CallFix p m c cc nL s args (cw :: Gw) own) (K : va_K D vwCl (tyL cy) s) (Z : ZG D (wC ad cy st) A s H locs) (hi : inB i 2000 = true) (hd : decode cc pc = .ok (.iastore, 1)) (kk : ∀ (H1 : Heap) (locs1 : List Loc), ZG D (wC ad cy (uA st 25 i v)) A s H1 locs1 → W p l e R s m args below meth c H1 locs1 0 0 Q (F0 m (pc + 1) ls rest)) : W p l e R s m args below meth c H locs 0 0 Q (F0 m pc ls (.int v :: .int i :: .ref (ad 36) :: rest)) :=
  va_iast F.1 F.2.1 K Z.1 Z.2.1 Z.2.2 36 1 rfl rfl (inB_vp hi) hd (fun H1 locs1 hP hD hS => kk H1 locs1 ⟨hP, hD, hS⟩)
theorem grX4_15_35 (F : CallFix p m c cc nL s args (cw :: Gw) RX4) (K : va_K D vwCl (tyL cy) s) (Z : ZG D (wC ad cy st) A s H locs) (hd : decode cc pc = .ok (.getfield 15, 3)) (kk : W p l e R s m args below meth c H locs 0 0 Q (F0 m (pc + 3) ls (.ref (ad 37) :: rest))) : W p l e R s m args below meth c H locs 0 0 Q (F0 m pc ls (.ref (ad 35) :: rest)) :=
  va_get (D := D) (ci := 4) (C := RX4) (T := TX4) (N := 7) F.1 F.2.1 F.2.2.2.2 (fun w h => List.mem_cons_of_mem _ (inG_X4 w h)) F.2.2.2.1 K Z.1 35 rfl rfl 1 (by decide) (F.2.2.2.2 _ (List.mem_cons_of_mem _ wd111)) (fun _ h => h) rfl hd kk
theorem as37 {i : Int32} {v : Int32} (F : CallFix p m c cc nL s args (cw :: Gw) own) (K : va_K D vwCl (tyL cy) s) (Z : ZG D (wC ad cy st) A s H locs) (hi : inB i 2000 = true) (hd : decode cc pc = .ok (.iastore, 1)) (kk : ∀ (H1 : Heap) (locs1 : List Loc), ZG D (wC ad cy (uA st 26 i v)) A s H1 locs1 → W p l e R s m args below meth c H1 locs1 0 0 Q (F0 m (pc + 1) ls rest)) : W p l e R s m args below meth c H locs 0 0 Q (F0 m pc ls (.int v :: .int i :: .ref (ad 37) :: rest)) :=
  va_iast F.1 F.2.1 K Z.1 Z.2.1 Z.2.2 37 1 rfl rfl (inB_vp hi) hd (fun H1 locs1 hP hD hS => kk H1 locs1 ⟨hP, hD, hS⟩)
theorem as39 {i : Int32} {v : Int32} (F : CallFix p m c cc nL s args (cw :: Gw) own) (K : va_K D vwCl (tyL cy) s) (Z : ZG D (wC ad cy st) A s H locs) (hi : inB i 2000 = true) (hd : decode cc pc = .ok (.iastore, 1)) (kk : ∀ (H1 : Heap) (locs1 : List Loc), ZG D (wC ad cy (uA st 28 i v)) A s H1 locs1 → W p l e R s m args below meth c H1 locs1 0 0 Q (F0 m (pc + 1) ls rest)) : W p l e R s m args below meth c H locs 0 0 Q (F0 m pc ls (.int v :: .int i :: .ref (ad 39) :: rest)) :=
  va_iast F.1 F.2.1 K Z.1 Z.2.1 Z.2.2 39 1 rfl rfl (inB_vp hi) hd (fun H1 locs1 hP hD hS => kk H1 locs1 ⟨hP, hD, hS⟩)
end
set_option maxRecDepth 100000 in
set_option maxHeartbeats 4000000 in
theorem b_X4_add_86 {p : Program} {l : Launch} {e : Env} {s : State} {m : MethodId} {args : Array Value} {below : List Frame} {meth : Method} {c : Code} {D : va_G} {A : Nat → Prop} {ad : Nat → Nat} {cy : Nat → ClassId} {ee : EE} {n : Nat} {res : (Int32 × StT)} (F : CallFix p m c cX4_add 6 s args (Cond.code yX4_add cX4_add 6 (some .int) :: Gw) yX4_add.cls) (hr : meth.sig.returnType = (some .int)) (hk : meth.locks = false) (K : va_K D vwCl (tyL cy) s) (E : EV ee A s s.heap) (hA : ∀ q, s.heap.size ≤ q → A q) : ∀ (st : StT) (x1 : Int32) (x2 : Int32) (x3 : Int32), f_X4_add_86 n st x1 x2 x3 = some res → ∀ (H : Heap) (locs : List Loc) (ls : Array Slot), ZG D (wC ad cy st) A s H locs → lv_has ls 6 [(0, .ref (ad 35)), (1, .int x1), (2, .int x2), (3, .int x3)] → W p l e { frames := 1, cells := 0, slots := 0, locals := 21 } s m args below meth c H locs 0 0 (MQ below (QC D (some (.int res.1)) (wC ad cy res.2) A) args s 0 0 A) (F0 m 86 ls []) := by
  have hx := F.1
  have hb := F.2.1
  intro st x1 x2 x3 hf H locs ls Z hl
  unfold f_X4_add_86 at hf
  refine lv_aload_n hx hb dX4_add_86 rfl (lv_at hl 0 rfl) ?_
  refine grX4_30_35 F K Z dX4_add_87 ?_
  refine lv_istore (lv' := [(5, .int (st.1 18)), (0, .ref (ad 35)), (1, .int x1), (2, .int x2), (3, .int x3)]) hx hb dX4_add_90 hl (by decide) rfl (fun ls hl => ?_)
  refine lv_aload_n hx hb dX4_add_92 rfl (lv_at hl 1 rfl) ?_
  refine grX4_9_35 F K Z dX4_add_93 ?_
  refine lv_iload hx hb dX4_add_96 (lv_at hl 0 rfl) ?_
  refine lv_iload_n hx hb dX4_add_98 rfl (lv_at hl 3 rfl) ?_
  obtain ⟨i99, hf⟩ := if_some hf
  refine as36 F K Z i99 dX4_add_99 (fun H locs Z => ?_)
  refine lv_aload_n hx hb dX4_add_100 rfl (lv_at hl 1 rfl) ?_
  refine grX4_15_35 F K Z dX4_add_101 ?_
  refine lv_iload hx hb dX4_add_104 (lv_at hl 0 rfl) ?_
  refine lv_aload_n hx hb dX4_add_106 rfl (lv_at hl 1 rfl) ?_
  refine grX4_24_35 F K Z dX4_add_107 ?_
  refine lv_iload_n hx hb dX4_add_110 rfl (lv_at hl 2 rfl) ?_
  obtain ⟨i111, hf⟩ := if_some hf
  refine al40 F K Z i111 dX4_add_111 ?_
  obtain ⟨i112, hf⟩ := if_some hf
  refine as37 F K Z i112 dX4_add_112 (fun H locs Z => ?_)
  refine lv_aload_n hx hb dX4_add_113 rfl (lv_at hl 1 rfl) ?_
  refine grX4_18_35 F K Z dX4_add_114 ?_
  refine lv_iload hx hb dX4_add_117 (lv_at hl 0 rfl) ?_
  refine lv_iconst (v := -1) hx hb dX4_add_119 (by decide) ?_
  obtain ⟨i120, hf⟩ := if_some hf
  refine as38 F K Z i120 dX4_add_120 (fun H locs Z => ?_)
  refine lv_aload_n hx hb dX4_add_121 rfl (lv_at hl 1 rfl) ?_
  refine grX4_21_35 F K Z dX4_add_122 ?_
  refine lv_iload hx hb dX4_add_125 (lv_at hl 0 rfl) ?_
  refine lv_iload_n hx hb dX4_add_127 rfl (lv_at hl 4 rfl) ?_
  obtain ⟨i128, hf⟩ := if_some hf
  refine as39 F K Z i128 dX4_add_128 (fun H locs Z => ?_)
  refine lv_aload_n hx hb dX4_add_129 rfl (lv_at hl 1 rfl) ?_
  refine lv_dup hx hb dX4_add_130 rfl ?_
  refine grX4_30_35 F K Z dX4_add_131 ?_
  refine lv_iconst (v := 1) hx hb dX4_add_134 (by decide) ?_
  refine lv_iadd hx hb dX4_add_135 ?_
  refine prX4_30_35 F K Z dX4_add_136 (fun H locs Z => ?_)
  refine lv_iload hx hb dX4_add_139 (lv_at hl 0 rfl) ?_
  have hf := Option.some.inj hf
  subst hf
  exact ret_i F hr hk Z dX4_add_141
set_option maxRecDepth 100000 in
set_option maxHeartbeats 4000000 in
theorem b_X4_add_43 {p : Program} {l : Launch} {e : Env} {s : State} {m : MethodId} {args : Array Value} {below : List Frame} {meth : Method} {c : Code} {D : va_G} {A : Nat → Prop} {ad : Nat → Nat} {cy : Nat → ClassId} {ee : EE} {n : Nat} {res : (Int32 × StT)} (F : CallFix p m c cX4_add 6 s args (Cond.code yX4_add cX4_add 6 (some .int) :: Gw) yX4_add.cls) (hr : meth.sig.returnType = (some .int)) (hk : meth.locks = false) (K : va_K D vwCl (tyL cy) s) (E : EV ee A s s.heap) (hA : ∀ q, s.heap.size ≤ q → A q) : ∀ (k : Nat) (st : StT) (x1 : Int32) (x2 : Int32) (x3 : Int32) (x4 : Int32) (x5 : Int32), f_X4_add_43 n k st x1 x2 x3 x4 x5 = some res → ∀ (H : Heap) (locs : List Loc) (ls : Array Slot), ZG D (wC ad cy st) A s H locs → lv_has ls 6 [(0, .ref (ad 35)), (1, .int x1), (2, .int x2), (3, .int x3), (4, .int x4), (5, .int x5)] → W p l e { frames := 1, cells := 0, slots := 0, locals := 21 } s m args below meth c H locs 0 0 (MQ below (QC D (some (.int res.1)) (wC ad cy res.2) A) args s 0 0 A) (F0 m 43 ls []) := by
  have hx := F.1
  have hb := F.2.1
  intro k
  induction k with
  | zero =>
    intro st x1 x2 x3 x4 x5 hf
    exact absurd hf (by simp [f_X4_add_43])
  | succ k ih =>
    intro st x1 x2 x3 x4 x5 hf H locs ls Z hl
    rw [f_X4_add_43] at hf
    refine lv_iload hx hb dX4_add_43 (lv_at hl 5 rfl) ?_
    refine lv_aload_n hx hb dX4_add_45 rfl (lv_at hl 0 rfl) ?_
    refine grX4_30_35 F K Z dX4_add_46 ?_
    refine lv_icmp_ge (tgt := 86) hx hb dX4_add_49 (by decide) (fun c49 => ?_) (fun c49 => ?_)
    · have hf := if_t c49 hf
      exact b_X4_add_86 F hr hk K E hA _ _ _ _ hf _ _ _ Z (lv_sub hl [0, 1, 2, 3] rfl)
    have hf := if_f c49 hf
    refine lv_aload_n hx hb dX4_add_52 rfl (lv_at hl 0 rfl) ?_
    refine lv_iload hx hb dX4_add_53 (lv_at hl 4 rfl) ?_
    obtain ⟨q55, h55, hf⟩ := bind_some hf
    refine krX4_34_X4_has F K E hA Z h55 ⟨Nat.le_of_ble_eq_true rfl, Nat.le_of_ble_eq_true rfl⟩ hl.1 (Nat.le_of_ble_eq_true rfl) dX4_add_55 (fun H locs Z => ?_)
    refine lv_if_eq (tgt := 86) hx hb dX4_add_58 (by decide) (fun c58 => ?_) (fun c58 => ?_)
    · have hf := if_t c58 hf
      exact b_X4_add_86 F hr hk K E hA _ _ _ _ hf _ _ _ Z (lv_sub hl [0, 1, 2, 3] rfl)
    have hf := if_f c58 hf
    refine lv_iload_n hx hb dX4_add_61 rfl (lv_at hl 3 rfl) ?_
    refine lv_aload_n hx hb dX4_add_62 rfl (lv_at hl 0 rfl) ?_
    refine grX4_21_35 F K Z dX4_add_63 ?_
    refine lv_iload hx hb dX4_add_66 (lv_at hl 4 rfl) ?_
    obtain ⟨i68, hf⟩ := if_some hf
    refine al39 F K Z i68 dX4_add_68 ?_
    refine lv_iadd hx hb dX4_add_69 ?_
    refine lv_istore_n (lv' := [(3, .int (x3 + (q55.2.2.1 28 (x4).toNatClampNeg))), (0, .ref (ad 35)), (1, .int x1), (2, .int x2), (4, .int x4), (5, .int x5)]) hx hb dX4_add_70 rfl hl (by decide) rfl (fun ls hl => ?_)
    refine lv_aload_n hx hb dX4_add_71 rfl (lv_at hl 1 rfl) ?_
    refine grX4_18_35 F K Z dX4_add_72 ?_
    refine lv_iload hx hb dX4_add_75 (lv_at hl 4 rfl) ?_
    obtain ⟨i77, hf⟩ := if_some hf
    refine al38 F K Z i77 dX4_add_77 ?_
    refine lv_istore (lv' := [(4, .int (q55.2.2.1 27 (x4).toNatClampNeg)), (3, .int (x3 + (q55.2.2.1 28 (x4).toNatClampNeg))), (0, .ref (ad 35)), (1, .int x1), (2, .int x2), (5, .int x5)]) hx hb dX4_add_78 hl (by decide) rfl (fun ls hl => ?_)
    refine lv_iinc (v := (x5 + (1 : Int32))) (lv' := [(5, .int (x5 + (1 : Int32))), (4, .int (q55.2.2.1 27 (x4).toNatClampNeg)), (3, .int (x3 + (q55.2.2.1 28 (x4).toNatClampNeg))), (0, .ref (ad 35)), (1, .int x1), (2, .int x2)]) hx hb dX4_add_80 hl (k := 5) rfl (congrArg (fun z => x5 + z) (by decide)) (by decide) rfl (fun ls hl => ?_)
    refine lv_goto (tgt := 43) hx hb dX4_add_83 (by decide) ?_
    exact ih _ _ _ _ _ _ hf _ _ _ Z (lv_sub hl [3, 4, 5, 2, 1, 0] rfl)
set_option maxRecDepth 100000 in
set_option maxHeartbeats 4000000 in
theorem c_X4_add {l : Launch} {D : va_G} {ad : Nat → Nat} {cy : Nat → ClassId} {ee : EE} {n : Nat} {st : StT} {x1 : Int32} {x2 : Int32} {res : (Int32 × StT)} (hf : f_X4_add n st x1 x2 = some res) : CT l yX4_add cX4_add 6 (some .int) 1 21 D cy ee (wC ad cy st) (wC ad cy res.2) [.ref (ad 35), .int x1, .int x2] (some (.int res.1)) := by
  refine CT.of (by decide +kernel) (Nat.le_of_ble_eq_true rfl) ?_
  intro p e s m args below meth c A F hr hk K E hA Z ls hl
  have hl : lv_has ls 6 [(0, .ref (ad 35)), (1, .int x1), (2, .int x2)] := hl
  have hx := F.1
  have hb := F.2.1
  unfold f_X4_add at hf
  refine lv_iload_n hx hb dX4_add_0 rfl (lv_at hl 1 rfl) ?_
  refine lv_if_lt (tgt := 28) hx hb dX4_add_1 (by decide) (fun c1 => ?_) (fun c1 => ?_)
  · have hf := if_t c1 hf
    refine lv_iconst (v := -1) hx hb dX4_add_28 (by decide) ?_
    have hf := Option.some.inj hf
    subst hf
    exact ret_i F hr hk Z dX4_add_29
  have hf := if_f c1 hf
  refine lv_iload_n hx hb dX4_add_4 rfl (lv_at hl 1 rfl) ?_
  refine lv_sipush (v := 200) hx hb dX4_add_5 (by decide) ?_
  refine lv_icmp_ge (tgt := 28) hx hb dX4_add_8 (by decide) (fun c8 => ?_) (fun c8 => ?_)
  · have hf := if_t c8 hf
    refine lv_iconst (v := -1) hx hb dX4_add_28 (by decide) ?_
    have hf := Option.some.inj hf
    subst hf
    exact ret_i F hr hk Z dX4_add_29
  have hf := if_f c8 hf
  refine lv_aload_n hx hb dX4_add_11 rfl (lv_at hl 0 rfl) ?_
  refine grX4_30_35 F K Z dX4_add_12 ?_
  refine lv_if_lt (tgt := 28) hx hb dX4_add_15 (by decide) (fun c15 => ?_) (fun c15 => ?_)
  · have hf := if_t c15 hf
    refine lv_iconst (v := -1) hx hb dX4_add_28 (by decide) ?_
    have hf := Option.some.inj hf
    subst hf
    exact ret_i F hr hk Z dX4_add_29
  have hf := if_f c15 hf
  refine lv_aload_n hx hb dX4_add_18 rfl (lv_at hl 0 rfl) ?_
  refine grX4_30_35 F K Z dX4_add_19 ?_
  refine lv_sipush (v := 2000) hx hb dX4_add_22 (by decide) ?_
  refine lv_icmp_lt (tgt := 30) hx hb dX4_add_25 (by decide) (fun c25 => ?_) (fun c25 => ?_)
  · have hf := if_t c25 hf
    refine lv_iconst (v := 1) hx hb dX4_add_30 (by decide) ?_
    refine lv_istore_n (lv' := [(3, .int (1 : Int32)), (0, .ref (ad 35)), (1, .int x1), (2, .int x2)]) hx hb dX4_add_31 rfl hl (by decide) rfl (fun ls hl => ?_)
    refine lv_aload_n hx hb dX4_add_32 rfl (lv_at hl 1 rfl) ?_
    refine grX4_24_35 F K Z dX4_add_33 ?_
    refine lv_iload_n hx hb dX4_add_36 rfl (lv_at hl 2 rfl) ?_
    obtain ⟨i37, hf⟩ := if_some hf
    refine al40 F K Z i37 dX4_add_37 ?_
    refine lv_istore (lv' := [(4, .int (st.2.1 29 (x1).toNatClampNeg)), (3, .int (1 : Int32)), (0, .ref (ad 35)), (1, .int x1), (2, .int x2)]) hx hb dX4_add_38 hl (by decide) rfl (fun ls hl => ?_)
    refine lv_iconst (v := 0) hx hb dX4_add_40 (by decide) ?_
    refine lv_istore (lv' := [(5, .int (0 : Int32)), (4, .int (st.2.1 29 (x1).toNatClampNeg)), (3, .int (1 : Int32)), (0, .ref (ad 35)), (1, .int x1), (2, .int x2)]) hx hb dX4_add_41 hl (by decide) rfl (fun ls hl => ?_)
    exact b_X4_add_43 F hr hk K E hA _ _ _ _ _ _ _ hf _ _ _ Z (lv_sub hl [3, 4, 5, 2, 1, 0] rfl)
  have hf := if_f c25 hf
  refine lv_iconst (v := -1) hx hb dX4_add_28 (by decide) ?_
  have hf := Option.some.inj hf
  subst hf
  exact ret_i F hr hk Z dX4_add_29
def f_X4_forcedIn (n : Nat) (st : StT) (x1 : Int32) : Option (Int32 × StT) := (f_X4_has n st x1).bind fun q2 => (if q2.1 = 0 then (some ((0 : Int32), q2.2)) else (if inB x1 2000 = true then (some ((q2.2.2.1 25 (x1).toNatClampNeg), q2.2)) else none))
section
variable {p : Program} {l : Launch} {e : Env} {R : Room} {s : State} {m : MethodId} {args : Array Value} {below : List Frame} {meth : Method} {c : Code} {H : Heap} {locs : List Loc} {Q : State → Prop}
variable {cc : ByteArray} {nL pc : Nat} {ls : Array Slot} {rest : List Value} {D : va_G} {A : Nat → Prop} {cw : Cond} {ad : Nat → Nat} {cy : Nat → ClassId} {ee : EE} {st : StT} {own : String}
theorem al36 {i : Int32} (F : CallFix p m c cc nL s args (cw :: Gw) own) (K : va_K D vwCl (tyL cy) s) (Z : ZG D (wC ad cy st) A s H locs) (hi : inB i 2000 = true) (hd : decode cc pc = .ok (.iaload, 1)) (kk : W p l e R s m args below meth c H locs 0 0 Q (F0 m (pc + 1) ls (.int (st.2.1 25 i.toNatClampNeg) :: rest))) : W p l e R s m args below meth c H locs 0 0 Q (F0 m pc ls (.int i :: .ref (ad 36) :: rest)) :=
  va_iald F.1 F.2.1 K Z.1 36 1 rfl rfl (inB_vp hi) hd kk
end
set_option maxRecDepth 100000 in
set_option maxHeartbeats 4000000 in
theorem c_X4_forcedIn {l : Launch} {D : va_G} {ad : Nat → Nat} {cy : Nat → ClassId} {ee : EE} {n : Nat} {st : StT} {x1 : Int32} {res : (Int32 × StT)} (hf : f_X4_forcedIn n st x1 = some res) : CT l yX4_forcedIn cX4_forcedIn 2 (some .int) 1 21 D cy ee (wC ad cy st) (wC ad cy res.2) [.ref (ad 35), .int x1] (some (.int res.1)) := by
  refine CT.of (by decide +kernel) (Nat.le_of_ble_eq_true rfl) ?_
  intro p e s m args below meth c A F hr hk K E hA Z ls hl
  have hl : lv_has ls 2 [(0, .ref (ad 35)), (1, .int x1)] := hl
  have hx := F.1
  have hb := F.2.1
  unfold f_X4_forcedIn at hf
  refine lv_aload_n hx hb dX4_forcedIn_0 rfl (lv_at hl 0 rfl) ?_
  refine lv_iload_n hx hb dX4_forcedIn_1 rfl (lv_at hl 1 rfl) ?_
  obtain ⟨q2, h2, hf⟩ := bind_some hf
  refine krX4_34_X4_has F K E hA Z h2 ⟨Nat.le_of_ble_eq_true rfl, Nat.le_of_ble_eq_true rfl⟩ hl.1 (Nat.le_of_ble_eq_true rfl) dX4_forcedIn_2 (fun H locs Z => ?_)
  refine lv_if_eq (tgt := 17) hx hb dX4_forcedIn_5 (by decide) (fun c5 => ?_) (fun c5 => ?_)
  · have hf := if_t c5 hf
    refine lv_iconst (v := 0) hx hb dX4_forcedIn_17 (by decide) ?_
    have hf := Option.some.inj hf
    subst hf
    exact ret_i F hr hk Z dX4_forcedIn_18
  have hf := if_f c5 hf
  refine lv_aload_n hx hb dX4_forcedIn_8 rfl (lv_at hl 0 rfl) ?_
  refine grX4_9_35 F K Z dX4_forcedIn_9 ?_
  refine lv_iload_n hx hb dX4_forcedIn_12 rfl (lv_at hl 1 rfl) ?_
  obtain ⟨i13, hf⟩ := if_some hf
  refine al36 F K Z i13 dX4_forcedIn_13 ?_
  refine lv_goto (tgt := 18) hx hb dX4_forcedIn_14 (by decide) ?_
  have hf := Option.some.inj hf
  subst hf
  exact ret_i F hr hk Z dX4_forcedIn_18
def f_X4_firstChildOf (n : Nat) (st : StT) (x1 : Int32) : Option (Int32 × StT) := (f_X4_has n st x1).bind fun q2 => (if q2.1 = 0 then (some ((-1 : Int32), q2.2)) else (if inB x1 2000 = true then (some ((q2.2.2.1 26 (x1).toNatClampNeg), q2.2)) else none))
section
variable {p : Program} {l : Launch} {e : Env} {R : Room} {s : State} {m : MethodId} {args : Array Value} {below : List Frame} {meth : Method} {c : Code} {H : Heap} {locs : List Loc} {Q : State → Prop}
variable {cc : ByteArray} {nL pc : Nat} {ls : Array Slot} {rest : List Value} {D : va_G} {A : Nat → Prop} {cw : Cond} {ad : Nat → Nat} {cy : Nat → ClassId} {ee : EE} {st : StT} {own : String}
theorem al37 {i : Int32} (F : CallFix p m c cc nL s args (cw :: Gw) own) (K : va_K D vwCl (tyL cy) s) (Z : ZG D (wC ad cy st) A s H locs) (hi : inB i 2000 = true) (hd : decode cc pc = .ok (.iaload, 1)) (kk : W p l e R s m args below meth c H locs 0 0 Q (F0 m (pc + 1) ls (.int (st.2.1 26 i.toNatClampNeg) :: rest))) : W p l e R s m args below meth c H locs 0 0 Q (F0 m pc ls (.int i :: .ref (ad 37) :: rest)) :=
  va_iald F.1 F.2.1 K Z.1 37 1 rfl rfl (inB_vp hi) hd kk
end
set_option maxRecDepth 100000 in
set_option maxHeartbeats 4000000 in
theorem c_X4_firstChildOf {l : Launch} {D : va_G} {ad : Nat → Nat} {cy : Nat → ClassId} {ee : EE} {n : Nat} {st : StT} {x1 : Int32} {res : (Int32 × StT)} (hf : f_X4_firstChildOf n st x1 = some res) : CT l yX4_firstChildOf cX4_firstChildOf 2 (some .int) 1 21 D cy ee (wC ad cy st) (wC ad cy res.2) [.ref (ad 35), .int x1] (some (.int res.1)) := by
  refine CT.of (by decide +kernel) (Nat.le_of_ble_eq_true rfl) ?_
  intro p e s m args below meth c A F hr hk K E hA Z ls hl
  have hl : lv_has ls 2 [(0, .ref (ad 35)), (1, .int x1)] := hl
  have hx := F.1
  have hb := F.2.1
  unfold f_X4_firstChildOf at hf
  refine lv_aload_n hx hb dX4_firstChildOf_0 rfl (lv_at hl 0 rfl) ?_
  refine lv_iload_n hx hb dX4_firstChildOf_1 rfl (lv_at hl 1 rfl) ?_
  obtain ⟨q2, h2, hf⟩ := bind_some hf
  refine krX4_34_X4_has F K E hA Z h2 ⟨Nat.le_of_ble_eq_true rfl, Nat.le_of_ble_eq_true rfl⟩ hl.1 (Nat.le_of_ble_eq_true rfl) dX4_firstChildOf_2 (fun H locs Z => ?_)
  refine lv_if_eq (tgt := 17) hx hb dX4_firstChildOf_5 (by decide) (fun c5 => ?_) (fun c5 => ?_)
  · have hf := if_t c5 hf
    refine lv_iconst (v := -1) hx hb dX4_firstChildOf_17 (by decide) ?_
    have hf := Option.some.inj hf
    subst hf
    exact ret_i F hr hk Z dX4_firstChildOf_18
  have hf := if_f c5 hf
  refine lv_aload_n hx hb dX4_firstChildOf_8 rfl (lv_at hl 0 rfl) ?_
  refine grX4_15_35 F K Z dX4_firstChildOf_9 ?_
  refine lv_iload_n hx hb dX4_firstChildOf_12 rfl (lv_at hl 1 rfl) ?_
  obtain ⟨i13, hf⟩ := if_some hf
  refine al37 F K Z i13 dX4_firstChildOf_13 ?_
  refine lv_goto (tgt := 18) hx hb dX4_firstChildOf_14 (by decide) ?_
  have hf := Option.some.inj hf
  subst hf
  exact ret_i F hr hk Z dX4_firstChildOf_18
def f_X4_siblingOf (n : Nat) (st : StT) (x1 : Int32) : Option (Int32 × StT) := (f_X4_has n st x1).bind fun q2 => (if q2.1 = 0 then (some ((-1 : Int32), q2.2)) else (if inB x1 2000 = true then (some ((q2.2.2.1 27 (x1).toNatClampNeg), q2.2)) else none))
set_option maxRecDepth 100000 in
set_option maxHeartbeats 4000000 in
theorem c_X4_siblingOf {l : Launch} {D : va_G} {ad : Nat → Nat} {cy : Nat → ClassId} {ee : EE} {n : Nat} {st : StT} {x1 : Int32} {res : (Int32 × StT)} (hf : f_X4_siblingOf n st x1 = some res) : CT l yX4_siblingOf cX4_siblingOf 2 (some .int) 1 21 D cy ee (wC ad cy st) (wC ad cy res.2) [.ref (ad 35), .int x1] (some (.int res.1)) := by
  refine CT.of (by decide +kernel) (Nat.le_of_ble_eq_true rfl) ?_
  intro p e s m args below meth c A F hr hk K E hA Z ls hl
  have hl : lv_has ls 2 [(0, .ref (ad 35)), (1, .int x1)] := hl
  have hx := F.1
  have hb := F.2.1
  unfold f_X4_siblingOf at hf
  refine lv_aload_n hx hb dX4_siblingOf_0 rfl (lv_at hl 0 rfl) ?_
  refine lv_iload_n hx hb dX4_siblingOf_1 rfl (lv_at hl 1 rfl) ?_
  obtain ⟨q2, h2, hf⟩ := bind_some hf
  refine krX4_34_X4_has F K E hA Z h2 ⟨Nat.le_of_ble_eq_true rfl, Nat.le_of_ble_eq_true rfl⟩ hl.1 (Nat.le_of_ble_eq_true rfl) dX4_siblingOf_2 (fun H locs Z => ?_)
  refine lv_if_eq (tgt := 17) hx hb dX4_siblingOf_5 (by decide) (fun c5 => ?_) (fun c5 => ?_)
  · have hf := if_t c5 hf
    refine lv_iconst (v := -1) hx hb dX4_siblingOf_17 (by decide) ?_
    have hf := Option.some.inj hf
    subst hf
    exact ret_i F hr hk Z dX4_siblingOf_18
  have hf := if_f c5 hf
  refine lv_aload_n hx hb dX4_siblingOf_8 rfl (lv_at hl 0 rfl) ?_
  refine grX4_18_35 F K Z dX4_siblingOf_9 ?_
  refine lv_iload_n hx hb dX4_siblingOf_12 rfl (lv_at hl 1 rfl) ?_
  obtain ⟨i13, hf⟩ := if_some hf
  refine al38 F K Z i13 dX4_siblingOf_13 ?_
  refine lv_goto (tgt := 18) hx hb dX4_siblingOf_14 (by decide) ?_
  have hf := Option.some.inj hf
  subst hf
  exact ret_i F hr hk Z dX4_siblingOf_18
def f_X4_totalOf (n : Nat) (st : StT) (x1 : Int32) : Option (Int32 × StT) := (f_X4_has n st x1).bind fun q2 => (if q2.1 = 0 then (some ((0 : Int32), q2.2)) else (if inB x1 2000 = true then (some ((q2.2.2.1 28 (x1).toNatClampNeg), q2.2)) else none))
set_option maxRecDepth 100000 in
set_option maxHeartbeats 4000000 in
theorem c_X4_totalOf {l : Launch} {D : va_G} {ad : Nat → Nat} {cy : Nat → ClassId} {ee : EE} {n : Nat} {st : StT} {x1 : Int32} {res : (Int32 × StT)} (hf : f_X4_totalOf n st x1 = some res) : CT l yX4_totalOf cX4_totalOf 2 (some .int) 1 21 D cy ee (wC ad cy st) (wC ad cy res.2) [.ref (ad 35), .int x1] (some (.int res.1)) := by
  refine CT.of (by decide +kernel) (Nat.le_of_ble_eq_true rfl) ?_
  intro p e s m args below meth c A F hr hk K E hA Z ls hl
  have hl : lv_has ls 2 [(0, .ref (ad 35)), (1, .int x1)] := hl
  have hx := F.1
  have hb := F.2.1
  unfold f_X4_totalOf at hf
  refine lv_aload_n hx hb dX4_totalOf_0 rfl (lv_at hl 0 rfl) ?_
  refine lv_iload_n hx hb dX4_totalOf_1 rfl (lv_at hl 1 rfl) ?_
  obtain ⟨q2, h2, hf⟩ := bind_some hf
  refine krX4_34_X4_has F K E hA Z h2 ⟨Nat.le_of_ble_eq_true rfl, Nat.le_of_ble_eq_true rfl⟩ hl.1 (Nat.le_of_ble_eq_true rfl) dX4_totalOf_2 (fun H locs Z => ?_)
  refine lv_if_eq (tgt := 17) hx hb dX4_totalOf_5 (by decide) (fun c5 => ?_) (fun c5 => ?_)
  · have hf := if_t c5 hf
    refine lv_iconst (v := 0) hx hb dX4_totalOf_17 (by decide) ?_
    have hf := Option.some.inj hf
    subst hf
    exact ret_i F hr hk Z dX4_totalOf_18
  have hf := if_f c5 hf
  refine lv_aload_n hx hb dX4_totalOf_8 rfl (lv_at hl 0 rfl) ?_
  refine grX4_21_35 F K Z dX4_totalOf_9 ?_
  refine lv_iload_n hx hb dX4_totalOf_12 rfl (lv_at hl 1 rfl) ?_
  obtain ⟨i13, hf⟩ := if_some hf
  refine al39 F K Z i13 dX4_totalOf_13 ?_
  refine lv_goto (tgt := 18) hx hb dX4_totalOf_14 (by decide) ?_
  have hf := Option.some.inj hf
  subst hf
  exact ret_i F hr hk Z dX4_totalOf_18
