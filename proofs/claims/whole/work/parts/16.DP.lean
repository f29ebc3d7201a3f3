def f_X9_many (n : Nat) (st : StT) : Option (Int32 × StT) := some ((st.1 27), st)
theorem wd306 : Cond.laysFinal RX9 "WorldProver$Worlds" "formulas" "LWorldProver$Formulas;" ∈ Gw := gT2 (List.mem_of_getElem? (i := 123) rfl) rfl
theorem wd307 : Cond.laysFinal RX9 "WorldProver$Worlds" "parents" "[I" ∈ Gw := gT2 (List.mem_of_getElem? (i := 125) rfl) rfl
theorem wd308 : Cond.laysFinal RX9 "WorldProver$Worlds" "forced" "[I" ∈ Gw := gT2 (List.mem_of_getElem? (i := 127) rfl) rfl
theorem wd309 : Cond.laysFinal RX9 "WorldProver$Worlds" "nodes" "[I" ∈ Gw := gT2 (List.mem_of_getElem? (i := 129) rfl) rfl
theorem wd310 : Cond.laysFinal RX9 "WorldProver$Worlds" "numbers" "[I" ∈ Gw := gT2 (List.mem_of_getElem? (i := 131) rfl) rfl
theorem wd311 : Cond.lays RX9 "WorldProver$Worlds" "many" "I" ∈ Gw := gT2 (List.mem_of_getElem? (i := 133) rfl) rfl
theorem wd312 : Cond.fieldLink RX9 24 "WorldProver$Worlds" "many" "I" ∈ Gw := gT2 (List.mem_of_getElem? (i := 122) rfl) rfl
theorem inG_X9 : ∀ w ∈ u_ws RX9 TX9 6, w ∈ Gw := by
  intro w h
  obtain ⟨k, hk, rfl⟩ := List.mem_map.mp h
  have hk := List.mem_range.mp hk
  by_cases h0 : k = 0
  · subst h0; exact wd306
  by_cases h1 : k = 1
  · subst h1; exact wd307
  by_cases h2 : k = 2
  · subst h2; exact wd308
  by_cases h3 : k = 3
  · subst h3; exact wd309
  by_cases h4 : k = 4
  · subst h4; exact wd310
  by_cases h5 : k = 5
  · subst h5; exact wd311
  omega
section
variable {p : Program} {l : Launch} {e : Env} {R : Room} {s : State} {m : MethodId} {args : Array Value} {below : List Frame} {meth : Method} {c : Code} {H : Heap} {locs : List Loc} {Q : State → Prop}
variable {cc : ByteArray} {nL pc : Nat} {ls : Array Slot} {rest : List Value} {D : va_G} {A : Nat → Prop} {cw : Cond} {ad : Nat → Nat} {cy : Nat → ClassId} {ee : EE} {st : StT} {own : String}
theorem grX9_24_58 (F : CallFix p m c cc nL s args (cw :: Gw) RX9) (K : va_K D vwCl (tyL cy) s) (Z : ZG D (wC ad cy st) A s H locs) (hd : decode cc pc = .ok (.getfield 24, 3)) (kk : W p l e R s m args below meth c H locs 0 0 Q (F0 m (pc + 3) ls (.int (st.1 27) :: rest))) : W p l e R s m args below meth c H locs 0 0 Q (F0 m pc ls (.ref (ad 58) :: rest)) :=
  va_get (D := D) (ci := 9) (C := RX9) (T := TX9) (N := 6) F.1 F.2.1 F.2.2.2.2 (fun w h => List.mem_cons_of_mem _ (inG_X9 w h)) F.2.2.2.1 K Z.1 58 rfl rfl 5 (by decide) (F.2.2.2.2 _ (List.mem_cons_of_mem _ wd312)) (fun _ h => h) rfl hd kk
end
set_option maxRecDepth 100000 in
set_option maxHeartbeats 4000000 in
theorem c_X9_many {l : Launch} {D : va_G} {ad : Nat → Nat} {cy : Nat → ClassId} {ee : EE} {n : Nat} {st : StT} {res : (Int32 × StT)} (hf : f_X9_many n st = some res) : CT l yX9_many cX9_many 1 (some .int) 0 0 D cy ee (wC ad cy st) (wC ad cy res.2) [.ref (ad 58)] (some (.int res.1)) := by
  refine CT.of (by decide +kernel) (Nat.le_of_ble_eq_true rfl) ?_
  intro p e s m args below meth c A F hr hk K E hA Z ls hl
  have hl : lv_has ls 1 [(0, .ref (ad 58))] := hl
  have hx := F.1
  have hb := F.2.1
  unfold f_X9_many at hf
  refine lv_aload_n hx hb dX9_many_0 rfl (lv_at hl 0 rfl) ?_
  refine grX9_24_58 F K Z dX9_many_1 ?_
  have hf := Option.some.inj hf
  subst hf
  exact ret_i F hr hk Z dX9_many_4
def f_X9_has (n : Nat) (st : StT) (x1 : Int32) : Option (Int32 × StT) := if x1 < 0 then (some ((0 : Int32), st)) else (if (st.1 27) ≤ x1 then (some ((0 : Int32), st)) else (if (60 : Int32) ≤ x1 then (some ((0 : Int32), st)) else (some ((1 : Int32), st))))
set_option maxRecDepth 100000 in
set_option maxHeartbeats 4000000 in
theorem c_X9_has {l : Launch} {D : va_G} {ad : Nat → Nat} {cy : Nat → ClassId} {ee : EE} {n : Nat} {st : StT} {x1 : Int32} {res : (Int32 × StT)} (hf : f_X9_has n st x1 = some res) : CT l yX9_has cX9_has 2 (some .boolean) 0 0 D cy ee (wC ad cy st) (wC ad cy res.2) [.ref (ad 58), .int x1] (some (.int res.1)) := by
  refine CT.of (by decide +kernel) (Nat.le_of_ble_eq_true rfl) ?_
  intro p e s m args below meth c A F hr hk K E hA Z ls hl
  have hl : lv_has ls 2 [(0, .ref (ad 58)), (1, .int x1)] := hl
  have hx := F.1
  have hb := F.2.1
  unfold f_X9_has at hf
  refine lv_iload_n hx hb dX9_has_0 rfl (lv_at hl 1 rfl) ?_
  refine lv_if_lt (tgt := 22) hx hb dX9_has_1 (by decide) (fun c1 => ?_) (fun c1 => ?_)
  · have hf := if_t c1 hf
    refine lv_iconst (v := 0) hx hb dX9_has_22 (by decide) ?_
    have hf := Option.some.inj hf
    subst hf
    exact ret_z F hr hk Z rfl dX9_has_23
  have hf := if_f c1 hf
  refine lv_iload_n hx hb dX9_has_4 rfl (lv_at hl 1 rfl) ?_
  refine lv_aload_n hx hb dX9_has_5 rfl (lv_at hl 0 rfl) ?_
  refine grX9_24_58 F K Z dX9_has_6 ?_
  refine lv_icmp_ge (tgt := 22) hx hb dX9_has_9 (by decide) (fun c9 => ?_) (fun c9 => ?_)
  · have hf := if_t c9 hf
    refine lv_iconst (v := 0) hx hb dX9_has_22 (by decide) ?_
    have hf := Option.some.inj hf
    subst hf
    exact ret_z F hr hk Z rfl dX9_has_23
  have hf := if_f c9 hf
  refine lv_iload_n hx hb dX9_has_12 rfl (lv_at hl 1 rfl) ?_
  refine lv_bipush (v := 60) hx hb dX9_has_13 (by decide) ?_
  refine lv_icmp_ge (tgt := 22) hx hb dX9_has_15 (by decide) (fun c15 => ?_) (fun c15 => ?_)
  · have hf := if_t c15 hf
    refine lv_iconst (v := 0) hx hb dX9_has_22 (by decide) ?_
    have hf := Option.some.inj hf
    subst hf
    exact ret_z F hr hk Z rfl dX9_has_23
  have hf := if_f c15 hf
  refine lv_iconst (v := 1) hx hb dX9_has_18 (by decide) ?_
  refine lv_goto (tgt := 23) hx hb dX9_has_19 (by decide) ?_
  have hf := Option.some.inj hf
  subst hf
  exact ret_z F hr hk Z rfl dX9_has_23
def f_X9_drop (n : Nat) (st : StT) : Option StT := if inB (0 : Int32) 60 = true then (some (uA (uF st 27 (1 : Int32)) 43 (0 : Int32) (0 : Int32))) else none
theorem wd313 : Cond.fieldLink RX9 15 "WorldProver$Worlds" "forced" "[I" ∈ Gw := gT2 (List.mem_of_getElem? (i := 119) rfl) rfl
section
variable {p : Program} {l : Launch} {e : Env} {R : Room} {s : State} {m : MethodId} {args : Array Value} {below : List Frame} {meth : Method} {c : Code} {H : Heap} {locs : List Loc} {Q : State → Prop}
variable {cc : ByteArray} {nL pc : Nat} {ls : Array Slot} {rest : List Value} {D : va_G} {A : Nat → Prop} {cw : Cond} {ad : Nat → Nat} {cy : Nat → ClassId} {ee : EE} {st : StT} {own : String}
theorem prX9_24_58 {v : Int32} (F : CallFix p m c cc nL s args (cw :: Gw) RX9) (K : va_K D vwCl (tyL cy) s) (Z : ZG D (wC ad cy st) A s H locs) (hd : decode cc pc = .ok (.putfield 24, 3)) (kk : ∀ (H1 : Heap) (locs1 : List Loc), ZG D (wC ad cy (uF st 27 v)) A s H1 locs1 → W p l e R s m args below meth c H1 locs1 0 0 Q (F0 m (pc + 3) ls rest)) : W p l e R s m args below meth c H locs 0 0 Q (F0 m pc ls (.int v :: .ref (ad 58) :: rest)) :=
  va_put (D := D) (ci := 9) (v := .int v) (ty := .int) (C := RX9) (T := TX9) (N := 6) F.1 F.2.1 F.2.2.2.2 (fun w h => List.mem_cons_of_mem _ (inG_X9 w h)) tyX9 tyX9_ok nmX9 F.2.2.2.1 K Z.1 Z.2.1 Z.2.2 58 rfl rfl 5 (by decide) (F.2.2.2.2 _ (List.mem_cons_of_mem _ wd312)) (fun _ h => h) rfl (by decide +kernel) rfl rfl (Nat.le_of_ble_eq_true rfl) hd (fun H1 locs1 hP hD hS => kk H1 locs1 ⟨hP, hD, hS⟩)
theorem grX9_15_58 (F : CallFix p m c cc nL s args (cw :: Gw) RX9) (K : va_K D vwCl (tyL cy) s) (Z : ZG D (wC ad cy st) A s H locs) (hd : decode cc pc = .ok (.getfield 15, 3)) (kk : W p l e R s m args below meth c H locs 0 0 Q (F0 m (pc + 3) ls (.ref (ad 60) :: rest))) : W p l e R s m args below meth c H locs 0 0 Q (F0 m pc ls (.ref (ad 58) :: rest)) :=
  va_get (D := D) (ci := 9) (C := RX9) (T := TX9) (N := 6) F.1 F.2.1 F.2.2.2.2 (fun w h => List.mem_cons_of_mem _ (inG_X9 w h)) F.2.2.2.1 K Z.1 58 rfl rfl 2 (by decide) (F.2.2.2.2 _ (List.mem_cons_of_mem _ wd313)) (fun _ h => h) rfl hd kk
theorem as60 {i : Int32} {v : Int32} (F : CallFix p m c cc nL s args (cw :: Gw) own) (K : va_K D vwCl (tyL cy) s) (Z : ZG D (wC ad cy st) A s H locs) (hi : inB i 60 = true) (hd : decode cc pc = .ok (.iastore, 1)) (kk : ∀ (H1 : Heap) (locs1 : List Loc), ZG D (wC ad cy (uA st 43 i v)) A s H1 locs1 → W p l e R s m args below meth c H1 locs1 0 0 Q (F0 m (pc + 1) ls rest)) : W p l e R s m args below meth c H locs 0 0 Q (F0 m pc ls (.int v :: .int i :: .ref (ad 60) :: rest)) :=
  va_iast F.1 F.2.1 K Z.1 Z.2.1 Z.2.2 60 1 rfl rfl (inB_vp hi) hd (fun H1 locs1 hP hD hS => kk H1 locs1 ⟨hP, hD, hS⟩)
end
set_option maxRecDepth 100000 in
set_option maxHeartbeats 4000000 in
theorem c_X9_drop {l : Launch} {D : va_G} {ad : Nat → Nat} {cy : Nat → ClassId} {ee : EE} {n : Nat} {st : StT} {res : StT} (hf : f_X9_drop n st = some res) : CT l yX9_drop cX9_drop 1 none 0 0 D cy ee (wC ad cy st) (wC ad cy res) [.ref (ad 58)] (none) := by
  refine CT.of (by decide +kernel) (Nat.le_of_ble_eq_true rfl) ?_
  intro p e s m args below meth c A F hr hk K E hA Z ls hl
  have hl : lv_has ls 1 [(0, .ref (ad 58))] := hl
  have hx := F.1
  have hb := F.2.1
  unfold f_X9_drop at hf
  refine lv_aload_n hx hb dX9_drop_0 rfl (lv_at hl 0 rfl) ?_
  refine lv_iconst (v := 1) hx hb dX9_drop_1 (by decide) ?_
  refine prX9_24_58 F K Z dX9_drop_2 (fun H locs Z => ?_)
  refine lv_aload_n hx hb dX9_drop_5 rfl (lv_at hl 0 rfl) ?_
  refine grX9_15_58 F K Z dX9_drop_6 ?_
  refine lv_iconst (v := 0) hx hb dX9_drop_9 (by decide) ?_
  refine lv_iconst (v := 0) hx hb dX9_drop_10 (by decide) ?_
  obtain ⟨i11, hf⟩ := if_some hf
  refine as60 F K Z i11 dX9_drop_11 (fun H locs Z => ?_)
  have hf := Option.some.inj hf
  subst hf
  exact ret_v F hr hk Z dX9_drop_12
def f_X9_parentOf (n : Nat) (st : StT) (x1 : Int32) : Option (Int32 × StT) := (f_X9_has n st x1).bind fun q2 => (if q2.1 = 0 then (some ((-1 : Int32), q2.2)) else (if inB x1 60 = true then (some ((q2.2.2.1 42 (x1).toNatClampNeg), q2.2)) else none))
theorem wd314 : Cond.fieldLink RX9 9 "WorldProver$Worlds" "parents" "[I" ∈ Gw := gT2 (List.mem_of_getElem? (i := 118) rfl) rfl
theorem wd315 : Cond.methodLink RX9 32 yX9_has ∈ Gw := gT5 (List.mem_of_getElem? (i := 234) rfl) rfl
theorem wd316 : Cond.code yX9_has prog_11_method_3_code 2 (some .boolean) ∈ Gw := gT5 (List.mem_of_getElem? (i := 229) rfl) rfl
theorem wd317 : Cond.instanceMethod yX9_has ∈ Gw := gT5 (List.mem_of_getElem? (i := 227) rfl) rfl
theorem wd318 : Cond.selects RX9 yX9_has yX9_has ∈ Gw := gT5 (List.mem_of_getElem? (i := 228) rfl) rfl
theorem wd319 : Cond.initialized RX9 ∈ Gw := gT1 (List.mem_of_getElem? (i := 13) rfl) rfl
section
variable {p : Program} {l : Launch} {e : Env} {R : Room} {s : State} {m : MethodId} {args : Array Value} {below : List Frame} {meth : Method} {c : Code} {H : Heap} {locs : List Loc} {Q : State → Prop}
variable {cc : ByteArray} {nL pc : Nat} {ls : Array Slot} {rest : List Value} {D : va_G} {A : Nat → Prop} {cw : Cond} {ad : Nat → Nat} {cy : Nat → ClassId} {ee : EE} {st : StT} {own : String}
theorem grX9_9_58 (F : CallFix p m c cc nL s args (cw :: Gw) RX9) (K : va_K D vwCl (tyL cy) s) (Z : ZG D (wC ad cy st) A s H locs) (hd : decode cc pc = .ok (.getfield 9, 3)) (kk : W p l e R s m args below meth c H locs 0 0 Q (F0 m (pc + 3) ls (.ref (ad 59) :: rest))) : W p l e R s m args below meth c H locs 0 0 Q (F0 m pc ls (.ref (ad 58) :: rest)) :=
  va_get (D := D) (ci := 9) (C := RX9) (T := TX9) (N := 6) F.1 F.2.1 F.2.2.2.2 (fun w h => List.mem_cons_of_mem _ (inG_X9 w h)) F.2.2.2.1 K Z.1 58 rfl rfl 1 (by decide) (F.2.2.2.2 _ (List.mem_cons_of_mem _ wd314)) (fun _ h => h) rfl hd kk
theorem al59 {i : Int32} (F : CallFix p m c cc nL s args (cw :: Gw) own) (K : va_K D vwCl (tyL cy) s) (Z : ZG D (wC ad cy st) A s H locs) (hi : inB i 60 = true) (hd : decode cc pc = .ok (.iaload, 1)) (kk : W p l e R s m args below meth c H locs 0 0 Q (F0 m (pc + 1) ls (.int (st.2.1 42 i.toNatClampNeg) :: rest))) : W p l e R s m args below meth c H locs 0 0 Q (F0 m pc ls (.int i :: .ref (ad 59) :: rest)) :=
  va_iald F.1 F.2.1 K Z.1 59 1 rfl rfl (inB_vp hi) hd kk
theorem krX9_32_X9_has {n : Nat} {a0 : Int32} {q : (Int32 × StT)} (F : CallFix p m c cc nL s args (cw :: Gw) RX9) (K : va_K D vwCl (tyL cy) s) (E : EV ee A s s.heap) (hA : ∀ q, s.heap.size ≤ q → A q) (Z : ZG D (wC ad cy st) A s H locs) (hf : f_X9_has n st a0 = some q) (hR : 1 ≤ R.frames ∧ 21 ≤ R.locals) (hl : ls.size = nL) (hst : (rest.map fun v => v.category).sum ≤ 8) (hd : decode cc pc = .ok (.invokevirtual 32, 3)) (kk : ∀ (H1 : Heap) (locs1 : List Loc), ZG D (wC ad cy q.2) A s H1 locs1 → W p l e R s m args below meth c H1 locs1 0 0 Q (F0 m (pc + 3) ls (.int q.1 :: rest))) : W p l e R s m args below meth c H locs 0 0 Q (F0 m pc ls (.int a0 :: .ref (ad 58) :: rest)) :=
  call_V (q := (RX9, TX9, 6)) (n := 1) (As := [.int a0]) (rv := some (.int q.1)) 58 9 F K E hA Z (c_X9_has (l := l) (D := D) (ad := ad) (cy := cy) (ee := ee) hf) ⟨wd316, wd315, wd317, wd318, wd319⟩ (by decide +kernel) rfl rfl hR rfl hl hst hd kk
end
set_option maxRecDepth 100000 in
set_option maxHeartbeats 4000000 in
theorem c_X9_parentOf {l : Launch} {D : va_G} {ad : Nat → Nat} {cy : Nat → ClassId} {ee : EE} {n : Nat} {st : StT} {x1 : Int32} {res : (Int32 × StT)} (hf : f_X9_parentOf n st x1 = some res) : CT l yX9_parentOf cX9_parentOf 2 (some .int) 1 21 D cy ee (wC ad cy st) (wC ad cy res.2) [.ref (ad 58), .int x1] (some (.int res.1)) := by
  refine CT.of (by decide +kernel) (Nat.le_of_ble_eq_true rfl) ?_
  intro p e s m args below meth c A F hr hk K E hA Z ls hl
  have hl : lv_has ls 2 [(0, .ref (ad 58)), (1, .int x1)] := hl
  have hx := F.1
  have hb := F.2.1
  unfold f_X9_parentOf at hf
  refine lv_aload_n hx hb dX9_parentOf_0 rfl (lv_at hl 0 rfl) ?_
  refine lv_iload_n hx hb dX9_parentOf_1 rfl (lv_at hl 1 rfl) ?_
  obtain ⟨q2, h2, hf⟩ := bind_some hf
  refine krX9_32_X9_has F K E hA Z h2 ⟨Nat.le_of_ble_eq_true rfl, Nat.le_of_ble_eq_true rfl⟩ hl.1 (Nat.le_of_ble_eq_true rfl) dX9_parentOf_2 (fun H locs Z => ?_)
  refine lv_if_eq (tgt := 17) hx hb dX9_parentOf_5 (by decide) (fun c5 => ?_) (fun c5 => ?_)
  · have hf := if_t c5 hf
    refine lv_iconst (v := -1) hx hb dX9_parentOf_17 (by decide) ?_
    have hf := Option.some.inj hf
    subst hf
    exact ret_i F hr hk Z dX9_parentOf_18
  have hf := if_f c5 hf
  refine lv_aload_n hx hb dX9_parentOf_8 rfl (lv_at hl 0 rfl) ?_
  refine grX9_9_58 F K Z dX9_parentOf_9 ?_
  refine lv_iload_n hx hb dX9_parentOf_12 rfl (lv_at hl 1 rfl) ?_
  obtain ⟨i13, hf⟩ := if_some hf
  refine al59 F K Z i13 dX9_parentOf_13 ?_
  refine lv_goto (tgt := 18) hx hb dX9_parentOf_14 (by decide) ?_
  have hf := Option.some.inj hf
  subst hf
  exact ret_i F hr hk Z dX9_parentOf_18
def f_X9_lay (n : Nat) (st : StT) (x1 : Int32) (x2 : Int32) (x3 : Int32) : Option StT := if x1 < 0 then (some st) else (if (60 : Int32) ≤ x1 then (some st) else (if inB x1 60 = true then (if inB x1 60 = true then (some (uA (uA st 42 x1 x2) 43 x1 x3)) else none) else none))
section
variable {p : Program} {l : Launch} {e : Env} {R : Room} {s : State} {m : MethodId} {args : Array Value} {below : List Frame} {meth : Method} {c : Code} {H : Heap} {locs : List Loc} {Q : State → Prop}
variable {cc : ByteArray} {nL pc : Nat} {ls : Array Slot} {rest : List Value} {D : va_G} {A : Nat → Prop} {cw : Cond} {ad : Nat → Nat} {cy : Nat → ClassId} {ee : EE} {st : StT} {own : String}
theorem al60 {i : Int32} (F : CallFix p m c cc nL s args (cw :: Gw) own) (K : va_K D vwCl (tyL cy) s) (Z : ZG D (wC ad cy st) A s H locs) (hi : inB i 60 = true) (hd : decode cc pc = .ok (.iaload, 1)) (kk : W p l e R s m args below meth c H locs 0 0 Q (F0 m (pc + 1) ls (.int (st.2.1 43 i.toNatClampNeg) :: rest))) : W p l e R s m args below meth c H locs 0 0 Q (F0 m pc ls (.int i :: .ref (ad 60) :: rest)) :=
  va_iald F.1 F.2.1 K Z.1 60 1 rfl rfl (inB_vp hi) hd kk
theorem as59 {i : Int32} {v : Int32} (F : CallFix p m c cc nL s args (cw :: Gw) own) (K : va_K D vwCl (tyL cy) s) (Z : ZG D (wC ad cy st) A s H locs) (hi : inB i 60 = true) (hd : decode cc pc = .ok (.iastore, 1)) (kk : ∀ (H1 : Heap) (locs1 : List Loc), ZG D (wC ad cy (uA st 42 i v)) A s H1 locs1 → W p l e R s m args below meth c H1 locs1 0 0 Q (F0 m (pc + 1) ls rest)) : W p l e R s m args below meth c H locs 0 0 Q (F0 m pc ls (.int v :: .int i :: .ref (ad 59) :: rest)) :=
  va_iast F.1 F.2.1 K Z.1 Z.2.1 Z.2.2 59 1 rfl rfl (inB_vp hi) hd (fun H1 locs1 hP hD hS => kk H1 locs1 ⟨hP, hD, hS⟩)
end
set_option maxRecDepth 100000 in
set_option maxHeartbeats 4000000 in
theorem c_X9_lay {l : Launch} {D : va_G} {ad : Nat → Nat} {cy : Nat → ClassId} {ee : EE} {n : Nat} {st : StT} {x1 : Int32} {x2 : Int32} {x3 : Int32} {res : StT} (hf : f_X9_lay n st x1 x2 x3 = some res) : CT l yX9_lay cX9_lay 4 none 0 0 D cy ee (wC ad cy st) (wC ad cy res) [.ref (ad 58), .int x1, .int x2, .int x3] (none) := by
  refine CT.of (by decide +kernel) (Nat.le_of_ble_eq_true rfl) ?_
  intro p e s m args below meth c A F hr hk K E hA Z ls hl
  have hl : lv_has ls 4 [(0, .ref (ad 58)), (1, .int x1), (2, .int x2), (3, .int x3)] := hl
  have hx := F.1
  have hb := F.2.1
  unfold f_X9_lay at hf
  refine lv_iload_n hx hb dX9_lay_0 rfl (lv_at hl 1 rfl) ?_
  refine lv_if_lt (tgt := 24) hx hb dX9_lay_1 (by decide) (fun c1 => ?_) (fun c1 => ?_)
  · have hf := if_t c1 hf
    have hf := Option.some.inj hf
    subst hf
    exact ret_v F hr hk Z dX9_lay_24
  have hf := if_f c1 hf
  refine lv_iload_n hx hb dX9_lay_4 rfl (lv_at hl 1 rfl) ?_
  refine lv_bipush (v := 60) hx hb dX9_lay_5 (by decide) ?_
  refine lv_icmp_ge (tgt := 24) hx hb dX9_lay_7 (by decide) (fun c7 => ?_) (fun c7 => ?_)
  · have hf := if_t c7 hf
    have hf := Option.some.inj hf
    subst hf
    exact ret_v F hr hk Z dX9_lay_24
  have hf := if_f c7 hf
  refine lv_aload_n hx hb dX9_lay_10 rfl (lv_at hl 0 rfl) ?_
  refine grX9_9_58 F K Z dX9_lay_11 ?_
  refine lv_iload_n hx hb dX9_lay_14 rfl (lv_at hl 1 rfl) ?_
  refine lv_iload_n hx hb dX9_lay_15 rfl (lv_at hl 2 rfl) ?_
  obtain ⟨i16, hf⟩ := if_some hf
  refine as59 F K Z i16 dX9_lay_16 (fun H locs Z => ?_)
  refine lv_aload_n hx hb dX9_lay_17 rfl (lv_at hl 0 rfl) ?_
  refine grX9_15_58 F K Z dX9_lay_18 ?_
  refine lv_iload_n hx hb dX9_lay_21 rfl (lv_at hl 1 rfl) ?_
  refine lv_iload_n hx hb dX9_lay_22 rfl (lv_at hl 3 rfl) ?_
  obtain ⟨i23, hf⟩ := if_some hf
  refine as60 F K Z i23 dX9_lay_23 (fun H locs Z => ?_)
  have hf := Option.some.inj hf
  subst hf
  exact ret_v F hr hk Z dX9_lay_24
def f_X9_grow (n : Nat) (st : StT) (x1 : Int32) : Option (Int32 × StT) := (f_X9_has n st x1).bind fun q2 => (if q2.1 = 0 then (some ((-4 : Int32), q2.2)) else (if (q2.2.1 27) < (60 : Int32) then (if inB x1 60 = true then ((f_X9_lay n q2.2 (q2.2.1 27) x1 (q2.2.2.1 43 (x1).toNatClampNeg)).bind fun q32 => (some ((((uF q32 27 ((q32.1 27) + (1 : Int32))).1 27) - (1 : Int32)), (uF q32 27 ((q32.1 27) + (1 : Int32)))))) else none) else (some ((-4 : Int32), q2.2))))
theorem wd320 : Cond.methodLink RX9 36 yX9_lay ∈ Gw := gT5 (List.mem_of_getElem? (i := 197) rfl) rfl
theorem wd321 : Cond.code yX9_lay prog_11_method_7_code 4 none ∈ Gw := gT5 (List.mem_of_getElem? (i := 200) rfl) rfl
theorem wd322 : Cond.instanceMethod yX9_lay ∈ Gw := gT5 (List.mem_of_getElem? (i := 199) rfl) rfl
theorem wd323 : Cond.selects RX9 yX9_lay yX9_lay ∈ Gw := gP5 (q := (yX9_lay, 6)) (List.mem_of_getElem? (i := 2) rfl)
section
variable {p : Program} {l : Launch} {e : Env} {R : Room} {s : State} {m : MethodId} {args : Array Value} {below : List Frame} {meth : Method} {c : Code} {H : Heap} {locs : List Loc} {Q : State → Prop}
variable {cc : ByteArray} {nL pc : Nat} {ls : Array Slot} {rest : List Value} {D : va_G} {A : Nat → Prop} {cw : Cond} {ad : Nat → Nat} {cy : Nat → ClassId} {ee : EE} {st : StT} {own : String}
theorem krX9_36_X9_lay {n : Nat} {a0 : Int32} {a1 : Int32} {a2 : Int32} {q : StT} (F : CallFix p m c cc nL s args (cw :: Gw) RX9) (K : va_K D vwCl (tyL cy) s) (E : EV ee A s s.heap) (hA : ∀ q, s.heap.size ≤ q → A q) (Z : ZG D (wC ad cy st) A s H locs) (hf : f_X9_lay n st a0 a1 a2 = some q) (hR : 1 ≤ R.frames ∧ 23 ≤ R.locals) (hl : ls.size = nL) (hst : (rest.map fun v => v.category).sum ≤ 8) (hd : decode cc pc = .ok (.invokevirtual 36, 3)) (kk : ∀ (H1 : Heap) (locs1 : List Loc), ZG D (wC ad cy q) A s H1 locs1 → W p l e R s m args below meth c H1 locs1 0 0 Q (F0 m (pc + 3) ls (rest))) : W p l e R s m args below meth c H locs 0 0 Q (F0 m pc ls (.int a2 :: .int a1 :: .int a0 :: .ref (ad 58) :: rest)) :=
  call_V (q := (RX9, TX9, 6)) (n := 3) (As := [.int a0, .int a1, .int a2]) (rv := none) 58 9 F K E hA Z (c_X9_lay (l := l) (D := D) (ad := ad) (cy := cy) (ee := ee) hf) ⟨wd321, wd320, wd322, wd323, wd319⟩ (by decide +kernel) rfl rfl hR rfl hl hst hd kk
end
set_option maxRecDepth 100000 in
set_option maxHeartbeats 4000000 in
theorem c_X9_grow {l : Launch} {D : va_G} {ad : Nat → Nat} {cy : Nat → ClassId} {ee : EE} {n : Nat} {st : StT} {x1 : Int32} {res : (Int32 × StT)} (hf : f_X9_grow n st x1 = some res) : CT l yX9_grow cX9_grow 2 (some .int) 1 23 D cy ee (wC ad cy st) (wC ad cy res.2) [.ref (ad 58), .int x1] (some (.int res.1)) := by
  refine CT.of (by decide +kernel) (Nat.le_of_ble_eq_true rfl) ?_
  intro p e s m args below meth c A F hr hk K E hA Z ls hl
  have hl : lv_has ls 2 [(0, .ref (ad 58)), (1, .int x1)] := hl
  have hx := F.1
  have hb := F.2.1
  unfold f_X9_grow at hf
  refine lv_aload_n hx hb dX9_grow_0 rfl (lv_at hl 0 rfl) ?_
  refine lv_iload_n hx hb dX9_grow_1 rfl (lv_at hl 1 rfl) ?_
  obtain ⟨q2, h2, hf⟩ := bind_some hf
  refine krX9_32_X9_has F K E hA Z h2 ⟨Nat.le_of_ble_eq_true rfl, Nat.le_of_ble_eq_true rfl⟩ hl.1 (Nat.le_of_ble_eq_true rfl) dX9_grow_2 (fun H locs Z => ?_)
  refine lv_if_eq (tgt := 17) hx hb dX9_grow_5 (by decide) (fun c5 => ?_) (fun c5 => ?_)
  · have hf := if_t c5 hf
    refine lv_bipush (v := -4) hx hb dX9_grow_17 (by decide) ?_
    have hf := Option.some.inj hf
    subst hf
    exact ret_i F hr hk Z dX9_grow_19
  have hf := if_f c5 hf
  refine lv_aload_n hx hb dX9_grow_8 rfl (lv_at hl 0 rfl) ?_
  refine grX9_24_58 F K Z dX9_grow_9 ?_
  refine lv_bipush (v := 60) hx hb dX9_grow_12 (by decide) ?_
  refine lv_icmp_lt (tgt := 20) hx hb dX9_grow_14 (by decide) (fun c14 => ?_) (fun c14 => ?_)
  · have hf := if_t c14 hf
    refine lv_aload_n hx hb dX9_grow_20 rfl (lv_at hl 0 rfl) ?_
    refine lv_aload_n hx hb dX9_grow_21 rfl (lv_at hl 0 rfl) ?_
    refine grX9_24_58 F K Z dX9_grow_22 ?_
    refine lv_iload_n hx hb dX9_grow_25 rfl (lv_at hl 1 rfl) ?_
    refine lv_aload_n hx hb dX9_grow_26 rfl (lv_at hl 0 rfl) ?_
    refine grX9_15_58 F K Z dX9_grow_27 ?_
    refine lv_iload_n hx hb dX9_grow_30 rfl (lv_at hl 1 rfl) ?_
    obtain ⟨i31, hf⟩ := if_some hf
    refine al60 F K Z i31 dX9_grow_31 ?_
    obtain ⟨q32, h32, hf⟩ := bind_some hf
    refine krX9_36_X9_lay F K E hA Z h32 ⟨Nat.le_of_ble_eq_true rfl, Nat.le_of_ble_eq_true rfl⟩ hl.1 (Nat.le_of_ble_eq_true rfl) dX9_grow_32 (fun H locs Z => ?_)
    refine lv_aload_n hx hb dX9_grow_35 rfl (lv_at hl 0 rfl) ?_
    refine lv_dup hx hb dX9_grow_36 rfl ?_
    refine grX9_24_58 F K Z dX9_grow_37 ?_
    refine lv_iconst (v := 1) hx hb dX9_grow_40 (by decide) ?_
    refine lv_iadd hx hb dX9_grow_41 ?_
    refine prX9_24_58 F K Z dX9_grow_42 (fun H locs Z => ?_)
    refine lv_aload_n hx hb dX9_grow_45 rfl (lv_at hl 0 rfl) ?_
    refine grX9_24_58 F K Z dX9_grow_46 ?_
    refine lv_iconst (v := 1) hx hb dX9_grow_49 (by decide) ?_
    refine lv_isub hx hb dX9_grow_50 ?_
    have hf := Option.some.inj hf
    subst hf
    exact ret_i F hr hk Z dX9_grow_51
  have hf := if_f c14 hf
  refine lv_bipush (v := -4) hx hb dX9_grow_17 (by decide) ?_
  have hf := Option.some.inj hf
  subst hf
  exact ret_i F hr hk Z dX9_grow_19
def f_X9_forces (n : Nat) (st : StT) (x1 : Int32) (x2 : Int32) : Option (Int32 × StT) := (f_X9_has n st x1).bind fun q2 => (if q2.1 = 0 then (some ((0 : Int32), q2.2)) else ((f_X1_hasVariable_F0 n q2.2 x2).bind fun q13 => (if q13.1 = 0 then (some ((0 : Int32), q13.2)) else (if inB x1 60 = true then (if (((q13.2.2.1 43 (x1).toNatClampNeg).toUInt32 >>> (x2.toUInt32 &&& Int32.toUInt32 31)).toInt32 &&& (1 : Int32)) = (1 : Int32) then (some ((1 : Int32), q13.2)) else (some ((0 : Int32), q13.2))) else none))))
theorem wd324 : Cond.fieldLink RX9 28 "WorldProver$Worlds" "formulas" "LWorldProver$Formulas;" ∈ Gw := gT2 (List.mem_of_getElem? (i := 117) rfl) rfl
theorem wd325 : Cond.methodLink RX9 40 yX1_hasVariable ∈ Gw := gT6 (List.mem_of_getElem? (i := 13) rfl) rfl
section
variable {p : Program} {l : Launch} {e : Env} {R : Room} {s : State} {m : MethodId} {args : Array Value} {below : List Frame} {meth : Method} {c : Code} {H : Heap} {locs : List Loc} {Q : State → Prop}
variable {cc : ByteArray} {nL pc : Nat} {ls : Array Slot} {rest : List Value} {D : va_G} {A : Nat → Prop} {cw : Cond} {ad : Nat → Nat} {cy : Nat → ClassId} {ee : EE} {st : StT} {own : String}
theorem grX9_28_58 (F : CallFix p m c cc nL s args (cw :: Gw) RX9) (K : va_K D vwCl (tyL cy) s) (Z : ZG D (wC ad cy st) A s H locs) (hd : decode cc pc = .ok (.getfield 28, 3)) (kk : W p l e R s m args below meth c H locs 0 0 Q (F0 m (pc + 3) ls (.ref (ad 4) :: rest))) : W p l e R s m args below meth c H locs 0 0 Q (F0 m pc ls (.ref (ad 58) :: rest)) :=
  va_get (D := D) (ci := 9) (C := RX9) (T := TX9) (N := 6) F.1 F.2.1 F.2.2.2.2 (fun w h => List.mem_cons_of_mem _ (inG_X9 w h)) F.2.2.2.1 K Z.1 58 rfl rfl 0 (by decide) (F.2.2.2.2 _ (List.mem_cons_of_mem _ wd324)) (fun _ h => h) rfl hd kk
theorem krX9_40_X1_hasVariable_F0 {n : Nat} {a0 : Int32} {q : (Int32 × StT)} (F : CallFix p m c cc nL s args (cw :: Gw) RX9) (K : va_K D vwCl (tyL cy) s) (E : EV ee A s s.heap) (hA : ∀ q, s.heap.size ≤ q → A q) (Z : ZG D (wC ad cy st) A s H locs) (hf : f_X1_hasVariable_F0 n st a0 = some q) (hR : 1 ≤ R.frames ∧ 21 ≤ R.locals) (hl : ls.size = nL) (hst : (rest.map fun v => v.category).sum ≤ 8) (hd : decode cc pc = .ok (.invokevirtual 40, 3)) (kk : ∀ (H1 : Heap) (locs1 : List Loc), ZG D (wC ad cy q.2) A s H1 locs1 → W p l e R s m args below meth c H1 locs1 0 0 Q (F0 m (pc + 3) ls (.int q.1 :: rest))) : W p l e R s m args below meth c H locs 0 0 Q (F0 m pc ls (.int a0 :: .ref (ad 4) :: rest)) :=
  call_V (q := (RX1, TX1, 9)) (n := 1) (As := [.int a0]) (rv := some (.int q.1)) 4 1 F K E hA Z (c_X1_hasVariable_F0 (l := l) (D := D) (ad := ad) (cy := cy) (ee := ee) hf) ⟨wd35, wd325, wd36, wd37, wd17⟩ (by decide +kernel) rfl rfl hR rfl hl hst hd kk
end
set_option maxRecDepth 100000 in
set_option maxHeartbeats 4000000 in
theorem c_X9_forces {l : Launch} {D : va_G} {ad : Nat → Nat} {cy : Nat → ClassId} {ee : EE} {n : Nat} {st : StT} {x1 : Int32} {x2 : Int32} {res : (Int32 × StT)} (hf : f_X9_forces n st x1 x2 = some res) : CT l yX9_forces cX9_forces 3 (some .boolean) 1 21 D cy ee (wC ad cy st) (wC ad cy res.2) [.ref (ad 58), .int x1, .int x2] (some (.int res.1)) := by
  refine CT.of (by decide +kernel) (Nat.le_of_ble_eq_true rfl) ?_
  intro p e s m args below meth c A F hr hk K E hA Z ls hl
  have hl : lv_has ls 3 [(0, .ref (ad 58)), (1, .int x1), (2, .int x2)] := hl
  have hx := F.1
  have hb := F.2.1
  unfold f_X9_forces at hf
  refine lv_aload_n hx hb dX9_forces_0 rfl (lv_at hl 0 rfl) ?_
  refine lv_iload_n hx hb dX9_forces_1 rfl (lv_at hl 1 rfl) ?_
  obtain ⟨q2, h2, hf⟩ := bind_some hf
  refine krX9_32_X9_has F K E hA Z h2 ⟨Nat.le_of_ble_eq_true rfl, Nat.le_of_ble_eq_true rfl⟩ hl.1 (Nat.le_of_ble_eq_true rfl) dX9_forces_2 (fun H locs Z => ?_)
  refine lv_if_eq (tgt := 37) hx hb dX9_forces_5 (by decide) (fun c5 => ?_) (fun c5 => ?_)
  · have hf := if_t c5 hf
    refine lv_iconst (v := 0) hx hb dX9_forces_37 (by decide) ?_
    have hf := Option.some.inj hf
    subst hf
    exact ret_z F hr hk Z rfl dX9_forces_38
  have hf := if_f c5 hf
  refine lv_aload_n hx hb dX9_forces_8 rfl (lv_at hl 0 rfl) ?_
  refine grX9_28_58 F K Z dX9_forces_9 ?_
  refine lv_iload_n hx hb dX9_forces_12 rfl (lv_at hl 2 rfl) ?_
  obtain ⟨q13, h13, hf⟩ := bind_some hf
  refine krX9_40_X1_hasVariable_F0 F K E hA Z h13 ⟨Nat.le_of_ble_eq_true rfl, Nat.le_of_ble_eq_true rfl⟩ hl.1 (Nat.le_of_ble_eq_true rfl) dX9_forces_13 (fun H locs Z => ?_)
  refine lv_if_eq (tgt := 37) hx hb dX9_forces_16 (by decide) (fun c16 => ?_) (fun c16 => ?_)
  · have hf := if_t c16 hf
    refine lv_iconst (v := 0) hx hb dX9_forces_37 (by decide) ?_
    have hf := Option.some.inj hf
    subst hf
    exact ret_z F hr hk Z rfl dX9_forces_38
  have hf := if_f c16 hf
  refine lv_aload_n hx hb dX9_forces_19 rfl (lv_at hl 0 rfl) ?_
  refine grX9_15_58 F K Z dX9_forces_20 ?_
  refine lv_iload_n hx hb dX9_forces_23 rfl (lv_at hl 1 rfl) ?_
  obtain ⟨i24, hf⟩ := if_some hf
  refine al60 F K Z i24 dX9_forces_24 ?_
  refine lv_iload_n hx hb dX9_forces_25 rfl (lv_at hl 2 rfl) ?_
  refine lv_iushr hx hb dX9_forces_26 rfl ?_
  refine lv_iconst (v := 1) hx hb dX9_forces_27 (by decide) ?_
  refine lv_iand hx hb dX9_forces_28 ?_
  refine lv_iconst (v := 1) hx hb dX9_forces_29 (by decide) ?_
  refine lv_icmp_ne (tgt := 37) hx hb dX9_forces_30 (by decide) (fun c30 => ?_) (fun c30 => ?_)
  · have hf := if_f c30 hf
    refine lv_iconst (v := 0) hx hb dX9_forces_37 (by decide) ?_
    have hf := Option.some.inj hf
    subst hf
    exact ret_z F hr hk Z rfl dX9_forces_38
  have hf := if_t c30 hf
  refine lv_iconst (v := 1) hx hb dX9_forces_33 (by decide) ?_
  refine lv_goto (tgt := 38) hx hb dX9_forces_34 (by decide) ?_
  have hf := Option.some.inj hf
  subst hf
  exact ret_z F hr hk Z rfl dX9_forces_38
def f_X9_forcing_5 (n : Nat) : Nat → StT → Int32 → Int64 → Int32 → Option (Int64 × StT)
  | 0, _, _, _, _ => none
  | k + 1, st, x1, x2, x4 => if (st.1 27) ≤ x4 then (some (x2, st)) else (if (60 : Int32) ≤ x4 then (some (x2, st)) else ((f_X9_forces n st x4 x1).bind fun q25 => (if q25.1 = 0 then (f_X9_forcing_5 n k q25.2 x1 x2 (x4 + (1 : Int32))) else (f_X9_forcing_5 n k q25.2 x1 (x2 ||| ((1 : Int64) <<< (x4.toInt64 &&& 63))) (x4 + (1 : Int32))))))
def f_X9_forcing (n : Nat) (st : StT) (x1 : Int32) : Option (Int64 × StT) := f_X9_forcing_5 n n st x1 (0 : Int64) (0 : Int32)
theorem wd326 : Cond.methodLink RX9 45 yX9_forces ∈ Gw := gT6 (List.mem_of_getElem? (i := 9) rfl) rfl
theorem wd327 : Cond.code yX9_forces prog_11_method_8_code 3 (some .boolean) ∈ Gw := gT6 (List.mem_of_getElem? (i := 12) rfl) rfl
theorem wd328 : Cond.instanceMethod yX9_forces ∈ Gw := gT6 (List.mem_of_getElem? (i := 10) rfl) rfl
theorem wd329 : Cond.selects RX9 yX9_forces yX9_forces ∈ Gw := gT6 (List.mem_of_getElem? (i := 11) rfl) rfl
section
variable {p : Program} {l : Launch} {e : Env} {R : Room} {s : State} {m : MethodId} {args : Array Value} {below : List Frame} {meth : Method} {c : Code} {H : Heap} {locs : List Loc} {Q : State → Prop}
variable {cc : ByteArray} {nL pc : Nat} {ls : Array Slot} {rest : List Value} {D : va_G} {A : Nat → Prop} {cw : Cond} {ad : Nat → Nat} {cy : Nat → ClassId} {ee : EE} {st : StT} {own : String}
theorem krX9_45_X9_forces {n : Nat} {a0 : Int32} {a1 : Int32} {q : (Int32 × StT)} (F : CallFix p m c cc nL s args (cw :: Gw) RX9) (K : va_K D vwCl (tyL cy) s) (E : EV ee A s s.heap) (hA : ∀ q, s.heap.size ≤ q → A q) (Z : ZG D (wC ad cy st) A s H locs) (hf : f_X9_forces n st a0 a1 = some q) (hR : 2 ≤ R.frames ∧ 43 ≤ R.locals) (hl : ls.size = nL) (hst : (rest.map fun v => v.category).sum ≤ 8) (hd : decode cc pc = .ok (.invokevirtual 45, 3)) (kk : ∀ (H1 : Heap) (locs1 : List Loc), ZG D (wC ad cy q.2) A s H1 locs1 → W p l e R s m args below meth c H1 locs1 0 0 Q (F0 m (pc + 3) ls (.int q.1 :: rest))) : W p l e R s m args below meth c H locs 0 0 Q (F0 m pc ls (.int a1 :: .int a0 :: .ref (ad 58) :: rest)) :=
  call_V (q := (RX9, TX9, 6)) (n := 2) (As := [.int a0, .int a1]) (rv := some (.int q.1)) 58 9 F K E hA Z (c_X9_forces (l := l) (D := D) (ad := ad) (cy := cy) (ee := ee) hf) ⟨wd327, wd326, wd328, wd329, wd319⟩ (by decide +kernel) rfl rfl hR rfl hl hst hd kk
end
set_option maxRecDepth 100000 in
set_option maxHeartbeats 4000000 in
theorem b_X9_forcing_5 {p : Program} {l : Launch} {e : Env} {s : State} {m : MethodId} {args : Array Value} {below : List Frame} {meth : Method} {c : Code} {D : va_G} {A : Nat → Prop} {ad : Nat → Nat} {cy : Nat → ClassId} {ee : EE} {n : Nat} {res : (Int64 × StT)} (F : CallFix p m c cX9_forcing 5 s args (Cond.code yX9_forcing cX9_forcing 5 (some .long) :: Gw) yX9_forcing.cls) (hr : meth.sig.returnType = (some .long)) (hk : meth.locks = false) (K : va_K D vwCl (tyL cy) s) (E : EV ee A s s.heap) (hA : ∀ q, s.heap.size ≤ q → A q) : ∀ (k : Nat) (st : StT) (x1 : Int32) (x2 : Int64) (x4 : Int32), f_X9_forcing_5 n k st x1 x2 x4 = some res → ∀ (H : Heap) (locs : List Loc) (ls : Array Slot), ZG D (wC ad cy st) A s H locs → lv_has ls 5 [(0, .ref (ad 58)), (1, .int x1), (2, .long x2), (4, .int x4)] → W p l e { frames := 2, cells := 0, slots := 0, locals := 43 } s m args below meth c H locs 0 0 (MQ below (QC D (some (.long res.1)) (wC ad cy res.2) A) args s 0 0 A) (F0 m 5 ls []) := by
  have hx := F.1
  have hb := F.2.1
  intro k
  induction k with
  | zero =>
    intro st x1 x2 x4 hf
    exact absurd hf (by simp [f_X9_forcing_5])
  | succ k ih =>
    intro st x1 x2 x4 hf H locs ls Z hl
    rw [f_X9_forcing_5] at hf
    refine lv_iload hx hb dX9_forcing_5 (lv_at hl 3 rfl) ?_
    refine lv_aload_n hx hb dX9_forcing_7 rfl (lv_at hl 0 rfl) ?_
    refine grX9_24_58 F K Z dX9_forcing_8 ?_
    refine lv_icmp_ge (tgt := 44) hx hb dX9_forcing_11 (by decide) (fun c11 => ?_) (fun c11 => ?_)
    · have hf := if_t c11 hf
      refine lv_lload_n hx hb dX9_forcing_44 rfl (lv_at hl 2 rfl) ?_
      have hf := Option.some.inj hf
      subst hf
      exact ret_l F hr hk Z dX9_forcing_45
    have hf := if_f c11 hf
    refine lv_iload hx hb dX9_forcing_14 (lv_at hl 3 rfl) ?_
    refine lv_bipush (v := 60) hx hb dX9_forcing_16 (by decide) ?_
    refine lv_icmp_ge (tgt := 44) hx hb dX9_forcing_18 (by decide) (fun c18 => ?_) (fun c18 => ?_)
    · have hf := if_t c18 hf
      refine lv_lload_n hx hb dX9_forcing_44 rfl (lv_at hl 2 rfl) ?_
      have hf := Option.some.inj hf
      subst hf
      exact ret_l F hr hk Z dX9_forcing_45
    have hf := if_f c18 hf
    refine lv_aload_n hx hb dX9_forcing_21 rfl (lv_at hl 0 rfl) ?_
    refine lv_iload hx hb dX9_forcing_22 (lv_at hl 3 rfl) ?_
    refine lv_iload_n hx hb dX9_forcing_24 rfl (lv_at hl 1 rfl) ?_
    obtain ⟨q25, h25, hf⟩ := bind_some hf
    refine krX9_45_X9_forces F K E hA Z h25 ⟨Nat.le_of_ble_eq_true rfl, Nat.le_of_ble_eq_true rfl⟩ hl.1 (Nat.le_of_ble_eq_true rfl) dX9_forcing_25 (fun H locs Z => ?_)
    refine lv_if_eq (tgt := 38) hx hb dX9_forcing_28 (by decide) (fun c28 => ?_) (fun c28 => ?_)
    · have hf := if_t c28 hf
      refine lv_iinc (v := (x4 + (1 : Int32))) (lv' := [(4, .int (x4 + (1 : Int32))), (0, .ref (ad 58)), (1, .int x1), (2, .long x2)]) hx hb dX9_forcing_38 hl (k := 3) rfl (congrArg (fun z => x4 + z) (by decide)) (by decide) rfl (fun ls hl => ?_)
      refine lv_goto (tgt := 5) hx hb dX9_forcing_41 (by decide) ?_
      exact ih _ _ _ _ hf _ _ _ Z (lv_sub hl [1, 2, 3, 0] rfl)
    have hf := if_f c28 hf
    refine lv_lload_n hx hb dX9_forcing_31 rfl (lv_at hl 2 rfl) ?_
    refine lv_lconst (v := 1) hx hb dX9_forcing_32 (by decide) ?_
    refine lv_iload hx hb dX9_forcing_33 (lv_at hl 3 rfl) ?_
    refine lv_lshl hx hb dX9_forcing_35 rfl ?_
    refine lv_lor hx hb dX9_forcing_36 ?_
    refine lv_lstore_n (lv' := [(2, .long (x2 ||| ((1 : Int64) <<< (x4.toInt64 &&& 63)))), (0, .ref (ad 58)), (1, .int x1), (4, .int x4)]) hx hb dX9_forcing_37 rfl hl (by decide) rfl (fun ls hl => ?_)
    refine lv_iinc (v := (x4 + (1 : Int32))) (lv' := [(4, .int (x4 + (1 : Int32))), (2, .long (x2 ||| ((1 : Int64) <<< (x4.toInt64 &&& 63)))), (0, .ref (ad 58)), (1, .int x1)]) hx hb dX9_forcing_38 hl (k := 3) rfl (congrArg (fun z => x4 + z) (by decide)) (by decide) rfl (fun ls hl => ?_)
    refine lv_goto (tgt := 5) hx hb dX9_forcing_41 (by decide) ?_
    exact ih _ _ _ _ hf _ _ _ Z (lv_sub hl [2, 3, 1, 0] rfl)
set_option maxRecDepth 100000 in
set_option maxHeartbeats 4000000 in
theorem c_X9_forcing {l : Launch} {D : va_G} {ad : Nat → Nat} {cy : Nat → ClassId} {ee : EE} {n : Nat} {st : StT} {x1 : Int32} {res : (Int64 × StT)} (hf : f_X9_forcing n st x1 = some res) : CT l yX9_forcing cX9_forcing 5 (some .long) 2 43 D cy ee (wC ad cy st) (wC ad cy res.2) [.ref (ad 58), .int x1] (some (.long res.1)) := by
  refine CT.of (by decide +kernel) (Nat.le_of_ble_eq_true rfl) ?_
  intro p e s m args below meth c A F hr hk K E hA Z ls hl
  have hl : lv_has ls 5 [(0, .ref (ad 58)), (1, .int x1)] := hl
  have hx := F.1
  have hb := F.2.1
  unfold f_X9_forcing at hf
  refine lv_lconst (v := 0) hx hb dX9_forcing_0 (by decide) ?_
  refine lv_lstore_n (lv' := [(2, .long (0 : Int64)), (0, .ref (ad 58)), (1, .int x1)]) hx hb dX9_forcing_1 rfl hl (by decide) rfl (fun ls hl => ?_)
  refine lv_iconst (v := 0) hx hb dX9_forcing_2 (by decide) ?_
  refine lv_istore (lv' := [(4, .int (0 : Int32)), (2, .long (0 : Int64)), (0, .ref (ad 58)), (1, .int x1)]) hx hb dX9_forcing_3 hl (by decide) rfl (fun ls hl => ?_)
  exact b_X9_forcing_5 F hr hk K E hA _ _ _ _ _ hf _ _ _ Z (lv_sub hl [2, 3, 1, 0] rfl)
def f_X9_above_13 (n : Nat) : Nat → StT → Int64 → Int32 → Option (Int64 × StT)
  | 0, _, _, _ => none
  | k + 1, st, x2, x4 => if (st.1 27) ≤ x4 then (some (x2, st)) else (if (60 : Int32) ≤ x4 then (some (x2, st)) else (if inB x4 60 = true then (if (lg_cmp ((x2.toUInt64 >>> ((st.2.1 42 (x4).toNatClampNeg).toInt64.toUInt64 &&& Int64.toUInt64 63)).toInt64 &&& (1 : Int64)) (1 : Int64)) = 0 then (f_X9_above_13 n k st (x2 ||| ((1 : Int64) <<< (x4.toInt64 &&& 63))) (x4 + (1 : Int32))) else (f_X9_above_13 n k st x2 (x4 + (1 : Int32)))) else none))
def f_X9_above (n : Nat) (st : StT) (x1 : Int32) : Option (Int64 × StT) := f_X9_above_13 n n st ((1 : Int64) <<< (x1.toInt64 &&& 63)) ((if x1 < (0 : Int32) then (0 : Int32) else x1) + (1 : Int32))
theorem wd330 : Cond.methodLink RX9 49 yJ9_max_7cf53 ∈ Gw := gT6 (List.mem_of_getElem? (i := 8) rfl) rfl
set_option maxRecDepth 100000 in
set_option maxHeartbeats 4000000 in
theorem b_X9_above_13 {p : Program} {l : Launch} {e : Env} {s : State} {m : MethodId} {args : Array Value} {below : List Frame} {meth : Method} {c : Code} {D : va_G} {A : Nat → Prop} {ad : Nat → Nat} {cy : Nat → ClassId} {ee : EE} {n : Nat} {res : (Int64 × StT)} (F : CallFix p m c cX9_above 5 s args (Cond.code yX9_above cX9_above 5 (some .long) :: Gw) yX9_above.cls) (hr : meth.sig.returnType = (some .long)) (hk : meth.locks = false) (K : va_K D vwCl (tyL cy) s) (E : EV ee A s s.heap) (hA : ∀ q, s.heap.size ≤ q → A q) : ∀ (k : Nat) (st : StT) (x2 : Int64) (x4 : Int32), f_X9_above_13 n k st x2 x4 = some res → ∀ (H : Heap) (locs : List Loc) (ls : Array Slot), ZG D (wC ad cy st) A s H locs → lv_has ls 5 [(0, .ref (ad 58)), (2, .long x2), (4, .int x4)] → W p l e { frames := 1, cells := 0, slots := 0, locals := 21 } s m args below meth c H locs 0 0 (MQ below (QC D (some (.long res.1)) (wC ad cy res.2) A) args s 0 0 A) (F0 m 13 ls []) := by
  have hx := F.1
  have hb := F.2.1
  intro k
  induction k with
  | zero =>
    intro st x2 x4 hf
    exact absurd hf (by simp [f_X9_above_13])
  | succ k ih =>
    intro st x2 x4 hf H locs ls Z hl
    rw [f_X9_above_13] at hf
    refine lv_iload hx hb dX9_above_13 (lv_at hl 2 rfl) ?_
    refine lv_aload_n hx hb dX9_above_15 rfl (lv_at hl 0 rfl) ?_
    refine grX9_24_58 F K Z dX9_above_16 ?_
    refine lv_icmp_ge (tgt := 58) hx hb dX9_above_19 (by decide) (fun c19 => ?_) (fun c19 => ?_)
    · have hf := if_t c19 hf
      refine lv_lload_n hx hb dX9_above_58 rfl (lv_at hl 1 rfl) ?_
      have hf := Option.some.inj hf
      subst hf
      exact ret_l F hr hk Z dX9_above_59
    have hf := if_f c19 hf
    refine lv_iload hx hb dX9_above_22 (lv_at hl 2 rfl) ?_
    refine lv_bipush (v := 60) hx hb dX9_above_24 (by decide) ?_
    refine lv_icmp_ge (tgt := 58) hx hb dX9_above_26 (by decide) (fun c26 => ?_) (fun c26 => ?_)
    · have hf := if_t c26 hf
      refine lv_lload_n hx hb dX9_above_58 rfl (lv_at hl 1 rfl) ?_
      have hf := Option.some.inj hf
      subst hf
      exact ret_l F hr hk Z dX9_above_59
    have hf := if_f c26 hf
    refine lv_lload_n hx hb dX9_above_29 rfl (lv_at hl 1 rfl) ?_
    refine lv_aload_n hx hb dX9_above_30 rfl (lv_at hl 0 rfl) ?_
    refine grX9_9_58 F K Z dX9_above_31 ?_
    refine lv_iload hx hb dX9_above_34 (lv_at hl 2 rfl) ?_
    obtain ⟨i36, hf⟩ := if_some hf
    refine al59 F K Z i36 dX9_above_36 ?_
    refine lv_lushr hx hb dX9_above_37 rfl ?_
    refine lv_lconst (v := 1) hx hb dX9_above_38 (by decide) ?_
    refine lv_land hx hb dX9_above_39 ?_
    refine lv_lconst (v := 1) hx hb dX9_above_40 (by decide) ?_
    refine W.lcmp hx hb dX9_above_41 ?_
    refine lv_if_ne (tgt := 52) hx hb dX9_above_42 (by decide) (fun c42 => ?_) (fun c42 => ?_)
    · have hf := if_f c42 hf
      refine lv_iinc (v := (x4 + (1 : Int32))) (lv' := [(4, .int (x4 + (1 : Int32))), (0, .ref (ad 58)), (2, .long x2)]) hx hb dX9_above_52 hl (k := 2) rfl (congrArg (fun z => x4 + z) (by decide)) (by decide) rfl (fun ls hl => ?_)
      refine lv_goto (tgt := 13) hx hb dX9_above_55 (by decide) ?_
      exact ih _ _ _ hf _ _ _ Z (lv_sub hl [1, 2, 0] rfl)
    have hf := if_t c42 hf
    refine lv_lload_n hx hb dX9_above_45 rfl (lv_at hl 1 rfl) ?_
    refine lv_lconst (v := 1) hx hb dX9_above_46 (by decide) ?_
    refine lv_iload hx hb dX9_above_47 (lv_at hl 2 rfl) ?_
    refine lv_lshl hx hb dX9_above_49 rfl ?_
    refine lv_lor hx hb dX9_above_50 ?_
    refine lv_lstore_n (lv' := [(2, .long (x2 ||| ((1 : Int64) <<< (x4.toInt64 &&& 63)))), (0, .ref (ad 58)), (4, .int x4)]) hx hb dX9_above_51 rfl hl (by decide) rfl (fun ls hl => ?_)
    refine lv_iinc (v := (x4 + (1 : Int32))) (lv' := [(4, .int (x4 + (1 : Int32))), (2, .long (x2 ||| ((1 : Int64) <<< (x4.toInt64 &&& 63)))), (0, .ref (ad 58))]) hx hb dX9_above_52 hl (k := 2) rfl (congrArg (fun z => x4 + z) (by decide)) (by decide) rfl (fun ls hl => ?_)
    refine lv_goto (tgt := 13) hx hb dX9_above_55 (by decide) ?_
    exact ih _ _ _ hf _ _ _ Z (lv_sub hl [2, 1, 0] rfl)
set_option maxRecDepth 100000 in
set_option maxHeartbeats 4000000 in
theorem c_X9_above {l : Launch} {D : va_G} {ad : Nat → Nat} {cy : Nat → ClassId} {ee : EE} {n : Nat} {st : StT} {x1 : Int32} {res : (Int64 × StT)} (hf : f_X9_above n st x1 = some res) : CT l yX9_above cX9_above 5 (some .long) 1 21 D cy ee (wC ad cy st) (wC ad cy res.2) [.ref (ad 58), .int x1] (some (.long res.1)) := by
  refine CT.of (by decide +kernel) (Nat.le_of_ble_eq_true rfl) ?_
  intro p e s m args below meth c A F hr hk K E hA Z ls hl
  have hl : lv_has ls 5 [(0, .ref (ad 58)), (1, .int x1)] := hl
  have hx := F.1
  have hb := F.2.1
  unfold f_X9_above at hf
  refine lv_lconst (v := 1) hx hb dX9_above_0 (by decide) ?_
  refine lv_iload_n hx hb dX9_above_1 rfl (lv_at hl 1 rfl) ?_
  refine lv_lshl hx hb dX9_above_2 rfl ?_
  refine lv_lstore_n (lv' := [(2, .long ((1 : Int64) <<< (x1.toInt64 &&& 63))), (0, .ref (ad 58)), (1, .int x1)]) hx hb dX9_above_3 rfl hl (by decide) rfl (fun ls hl => ?_)
  refine lv_iload_n hx hb dX9_above_4 rfl (lv_at hl 2 rfl) ?_
  refine lv_iconst (v := 0) hx hb dX9_above_5 (by decide) ?_
  refine mth_max F (F.2.2.2.2 _ (List.mem_cons_of_mem _ wd330)) hl.1 (Nat.le_of_ble_eq_true rfl) (Nat.le_of_ble_eq_true rfl) dX9_above_6 ?_
  refine lv_iconst (v := 1) hx hb dX9_above_9 (by decide) ?_
  refine lv_iadd hx hb dX9_above_10 ?_
  refine lv_istore (lv' := [(4, .int ((if x1 < (0 : Int32) then (0 : Int32) else x1) + (1 : Int32))), (2, .long ((1 : Int64) <<< (x1.toInt64 &&& 63))), (0, .ref (ad 58)), (1, .int x1)]) hx hb dX9_above_11 hl (by decide) rfl (fun ls hl => ?_)
  exact b_X9_above_13 F hr hk K E hA _ _ _ _ hf _ _ _ Z (lv_sub hl [2, 1, 0] rfl)
def f_X9_below_15 (n : Nat) : Nat → StT → Int64 → Int32 → Option (Int64 × StT)
  | 0, _, _, _ => none
  | k + 1, st, x3, x5 => if x5 ≤ 0 then (some (x3, st)) else (if (lg_cmp ((x3.toUInt64 >>> (x5.toInt64.toUInt64 &&& Int64.toUInt64 63)).toInt64 &&& (1 : Int64)) (1 : Int64)) = 0 then (if inB x5 60 = true then (f_X9_below_15 n k st (x3 ||| ((1 : Int64) <<< ((st.2.1 42 (x5).toNatClampNeg).toInt64 &&& 63))) (x5 + (-1 : Int32))) else none) else (f_X9_below_15 n k st x3 (x5 + (-1 : Int32))))
def f_X9_below (n : Nat) (st : StT) (x1 : Int64) : Option (Int64 × StT) := f_X9_below_15 n n st x1 ((if (60 : Int32) < (st.1 27) then (60 : Int32) else (st.1 27)) - (1 : Int32))
theorem wd331 : Cond.methodLink RX9 55 yJ9_min_7cf53 ∈ Gw := gT6 (List.mem_of_getElem? (i := 50) rfl) rfl
set_option maxRecDepth 100000 in
set_option maxHeartbeats 4000000 in
theorem b_X9_below_15 {p : Program} {l : Launch} {e : Env} {s : State} {m : MethodId} {args : Array Value} {below : List Frame} {meth : Method} {c : Code} {D : va_G} {A : Nat → Prop} {ad : Nat → Nat} {cy : Nat → ClassId} {ee : EE} {n : Nat} {res : (Int64 × StT)} (F : CallFix p m c cX9_below 6 s args (Cond.code yX9_below cX9_below 6 (some .long) :: Gw) yX9_below.cls) (hr : meth.sig.returnType = (some .long)) (hk : meth.locks = false) (K : va_K D vwCl (tyL cy) s) (E : EV ee A s s.heap) (hA : ∀ q, s.heap.size ≤ q → A q) : ∀ (k : Nat) (st : StT) (x3 : Int64) (x5 : Int32), f_X9_below_15 n k st x3 x5 = some res → ∀ (H : Heap) (locs : List Loc) (ls : Array Slot), ZG D (wC ad cy st) A s H locs → lv_has ls 6 [(0, .ref (ad 58)), (3, .long x3), (5, .int x5)] → W p l e { frames := 1, cells := 0, slots := 0, locals := 21 } s m args below meth c H locs 0 0 (MQ below (QC D (some (.long res.1)) (wC ad cy res.2) A) args s 0 0 A) (F0 m 15 ls []) := by
  have hx := F.1
  have hb := F.2.1
  intro k
  induction k with
  | zero =>
    intro st x3 x5 hf
    exact absurd hf (by simp [f_X9_below_15])
  | succ k ih =>
    intro st x3 x5 hf H locs ls Z hl
    rw [f_X9_below_15] at hf
    refine lv_iload hx hb dX9_below_15 (lv_at hl 2 rfl) ?_
    refine lv_if_le (tgt := 49) hx hb dX9_below_17 (by decide) (fun c17 => ?_) (fun c17 => ?_)
    · have hf := if_t c17 hf
      refine lv_lload_n hx hb dX9_below_49 rfl (lv_at hl 1 rfl) ?_
      have hf := Option.some.inj hf
      subst hf
      exact ret_l F hr hk Z dX9_below_50
    have hf := if_f c17 hf
    refine lv_lload_n hx hb dX9_below_20 rfl (lv_at hl 1 rfl) ?_
    refine lv_iload hx hb dX9_below_21 (lv_at hl 2 rfl) ?_
    refine lv_lushr hx hb dX9_below_23 rfl ?_
    refine lv_lconst (v := 1) hx hb dX9_below_24 (by decide) ?_
    refine lv_land hx hb dX9_below_25 ?_
    refine lv_lconst (v := 1) hx hb dX9_below_26 (by decide) ?_
    refine W.lcmp hx hb dX9_below_27 ?_
    refine lv_if_ne (tgt := 43) hx hb dX9_below_28 (by decide) (fun c28 => ?_) (fun c28 => ?_)
    · have hf := if_f c28 hf
      refine lv_iinc (v := (x5 + (-1 : Int32))) (lv' := [(5, .int (x5 + (-1 : Int32))), (0, .ref (ad 58)), (3, .long x3)]) hx hb dX9_below_43 hl (k := 2) rfl (congrArg (fun z => x5 + z) (by decide)) (by decide) rfl (fun ls hl => ?_)
      refine lv_goto (tgt := 15) hx hb dX9_below_46 (by decide) ?_
      exact ih _ _ _ hf _ _ _ Z (lv_sub hl [1, 2, 0] rfl)
    have hf := if_t c28 hf
    refine lv_lload_n hx hb dX9_below_31 rfl (lv_at hl 1 rfl) ?_
    refine lv_lconst (v := 1) hx hb dX9_below_32 (by decide) ?_
    refine lv_aload_n hx hb dX9_below_33 rfl (lv_at hl 0 rfl) ?_
    refine grX9_9_58 F K Z dX9_below_34 ?_
    refine lv_iload hx hb dX9_below_37 (lv_at hl 2 rfl) ?_
    obtain ⟨i39, hf⟩ := if_some hf
    refine al59 F K Z i39 dX9_below_39 ?_
    refine lv_lshl hx hb dX9_below_40 rfl ?_
    refine lv_lor hx hb dX9_below_41 ?_
    refine lv_lstore_n (lv' := [(3, .long (x3 ||| ((1 : Int64) <<< ((st.2.1 42 (x5).toNatClampNeg).toInt64 &&& 63)))), (0, .ref (ad 58)), (5, .int x5)]) hx hb dX9_below_42 rfl hl (by decide) rfl (fun ls hl => ?_)
    refine lv_iinc (v := (x5 + (-1 : Int32))) (lv' := [(5, .int (x5 + (-1 : Int32))), (3, .long (x3 ||| ((1 : Int64) <<< ((st.2.1 42 (x5).toNatClampNeg).toInt64 &&& 63)))), (0, .ref (ad 58))]) hx hb dX9_below_43 hl (k := 2) rfl (congrArg (fun z => x5 + z) (by decide)) (by decide) rfl (fun ls hl => ?_)
    refine lv_goto (tgt := 15) hx hb dX9_below_46 (by decide) ?_
    exact ih _ _ _ hf _ _ _ Z (lv_sub hl [2, 1, 0] rfl)
set_option maxRecDepth 100000 in
set_option maxHeartbeats 4000000 in
theorem c_X9_below {l : Launch} {D : va_G} {ad : Nat → Nat} {cy : Nat → ClassId} {ee : EE} {n : Nat} {st : StT} {x1 : Int64} {res : (Int64 × StT)} (hf : f_X9_below n st x1 = some res) : CT l yX9_below cX9_below 6 (some .long) 1 21 D cy ee (wC ad cy st) (wC ad cy res.2) [.ref (ad 58), .long x1] (some (.long res.1)) := by
  refine CT.of (by decide +kernel) (Nat.le_of_ble_eq_true rfl) ?_
  intro p e s m args below meth c A F hr hk K E hA Z ls hl
  have hl : lv_has ls 6 [(0, .ref (ad 58)), (1, .long x1)] := hl
  have hx := F.1
  have hb := F.2.1
  unfold f_X9_below at hf
  refine lv_lload_n hx hb dX9_below_0 rfl (lv_at hl 1 rfl) ?_
  refine lv_lstore_n (lv' := [(3, .long x1), (0, .ref (ad 58)), (1, .long x1)]) hx hb dX9_below_1 rfl hl (by decide) rfl (fun ls hl => ?_)
  refine lv_aload_n hx hb dX9_below_2 rfl (lv_at hl 1 rfl) ?_
  refine grX9_24_58 F K Z dX9_below_3 ?_
  refine lv_bipush (v := 60) hx hb dX9_below_6 (by decide) ?_
  refine mth_min F (F.2.2.2.2 _ (List.mem_cons_of_mem _ wd331)) hl.1 (Nat.le_of_ble_eq_true rfl) (Nat.le_of_ble_eq_true rfl) dX9_below_8 ?_
  refine lv_iconst (v := 1) hx hb dX9_below_11 (by decide) ?_
  refine lv_isub hx hb dX9_below_12 ?_
  refine lv_istore (lv' := [(5, .int ((if (60 : Int32) < (st.1 27) then (60 : Int32) else (st.1 27)) - (1 : Int32))), (3, .long x1), (0, .ref (ad 58)), (1, .long x1)]) hx hb dX9_below_13 hl (by decide) rfl (fun ls hl => ?_)
  exact b_X9_below_15 F hr hk K E hA _ _ _ _ hf _ _ _ Z (lv_sub hl [2, 1, 0] rfl)
def f_X9_forceAbove_12 (n : Nat) : Nat → StT → Int32 → Int64 → Int32 → Int32 → Option (Int32 × StT)
  | 0, _, _, _, _, _ => none
  | k + 1, st, x2, x3, x5, x6 => if (st.1 27) ≤ x6 then (some (x5, st)) else (if (60 : Int32) ≤ x6 then (some (x5, st)) else (if (lg_cmp ((x3.toUInt64 >>> (x6.toInt64.toUInt64 &&& Int64.toUInt64 63)).toInt64 &&& (1 : Int64)) (1 : Int64)) = 0 then ((f_X9_forces n st x6 x2).bind fun q43 => (if q43.1 = 0 then (if inB x6 60 = true then (if inB x6 60 = true then (f_X9_forceAbove_12 n k (uA q43.2 43 x6 ((q43.2.2.1 43 (x6).toNatClampNeg) ||| ((1 : Int32) <<< (x2 &&& 31)))) x2 x3 (x5 + (1 : Int32)) (x6 + (1 : Int32))) else none) else none) else (f_X9_forceAbove_12 n k q43.2 x2 x3 x5 (x6 + (1 : Int32))))) else (f_X9_forceAbove_12 n k st x2 x3 x5 (x6 + (1 : Int32)))))
def f_X9_forceAbove (n : Nat) (st : StT) (x1 : Int32) (x2 : Int32) : Option (Int32 × StT) := (f_X9_above n st x1).bind fun q2 => (f_X9_forceAbove_12 n n q2.2 x2 q2.1 (0 : Int32) (0 : Int32))
theorem wd332 : Cond.methodLink RX9 58 yX9_above ∈ Gw := gT6 (List.mem_of_getElem? (i := 4) rfl) rfl
theorem wd333 : Cond.code yX9_above prog_11_method_10_code 5 (some .long) ∈ Gw := gT6 (List.mem_of_getElem? (i := 7) rfl) rfl
theorem wd334 : Cond.instanceMethod yX9_above ∈ Gw := gT6 (List.mem_of_getElem? (i := 5) rfl) rfl
theorem wd335 : Cond.selects RX9 yX9_above yX9_above ∈ Gw := gT6 (List.mem_of_getElem? (i := 6) rfl) rfl
section
variable {p : Program} {l : Launch} {e : Env} {R : Room} {s : State} {m : MethodId} {args : Array Value} {below : List Frame} {meth : Method} {c : Code} {H : Heap} {locs : List Loc} {Q : State → Prop}
variable {cc : ByteArray} {nL pc : Nat} {ls : Array Slot} {rest : List Value} {D : va_G} {A : Nat → Prop} {cw : Cond} {ad : Nat → Nat} {cy : Nat → ClassId} {ee : EE} {st : StT} {own : String}
theorem krX9_58_X9_above {n : Nat} {a0 : Int32} {q : (Int64 × StT)} (F : CallFix p m c cc nL s args (cw :: Gw) RX9) (K : va_K D vwCl (tyL cy) s) (E : EV ee A s s.heap) (hA : ∀ q, s.heap.size ≤ q → A q) (Z : ZG D (wC ad cy st) A s H locs) (hf : f_X9_above n st a0 = some q) (hR : 2 ≤ R.frames ∧ 45 ≤ R.locals) (hl : ls.size = nL) (hst : (rest.map fun v => v.category).sum ≤ 8) (hd : decode cc pc = .ok (.invokevirtual 58, 3)) (kk : ∀ (H1 : Heap) (locs1 : List Loc), ZG D (wC ad cy q.2) A s H1 locs1 → W p l e R s m args below meth c H1 locs1 0 0 Q (F0 m (pc + 3) ls (.long q.1 :: rest))) : W p l e R s m args below meth c H locs 0 0 Q (F0 m pc ls (.int a0 :: .ref (ad 58) :: rest)) :=
  call_V (q := (RX9, TX9, 6)) (n := 1) (As := [.int a0]) (rv := some (.long q.1)) 58 9 F K E hA Z (c_X9_above (l := l) (D := D) (ad := ad) (cy := cy) (ee := ee) hf) ⟨wd333, wd332, wd334, wd335, wd319⟩ (by decide +kernel) rfl rfl hR rfl hl hst hd kk
end
set_option maxRecDepth 100000 in
set_option maxHeartbeats 4000000 in
theorem b_X9_forceAbove_12 {p : Program} {l : Launch} {e : Env} {s : State} {m : MethodId} {args : Array Value} {below : List Frame} {meth : Method} {c : Code} {D : va_G} {A : Nat → Prop} {ad : Nat → Nat} {cy : Nat → ClassId} {ee : EE} {n : Nat} {res : (Int32 × StT)} (F : CallFix p m c cX9_forceAbove 7 s args (Cond.code yX9_forceAbove cX9_forceAbove 7 (some .int) :: Gw) yX9_forceAbove.cls) (hr : meth.sig.returnType = (some .int)) (hk : meth.locks = false) (K : va_K D vwCl (tyL cy) s) (E : EV ee A s s.heap) (hA : ∀ q, s.heap.size ≤ q → A q) : ∀ (k : Nat) (st : StT) (x2 : Int32) (x3 : Int64) (x5 : Int32) (x6 : Int32), f_X9_forceAbove_12 n k st x2 x3 x5 x6 = some res → ∀ (H : Heap) (locs : List Loc) (ls : Array Slot), ZG D (wC ad cy st) A s H locs → lv_has ls 7 [(0, .ref (ad 58)), (2, .int x2), (3, .long x3), (5, .int x5), (6, .int x6)] → W p l e { frames := 2, cells := 0, slots := 0, locals := 45 } s m args below meth c H locs 0 0 (MQ below (QC D (some (.int res.1)) (wC ad cy res.2) A) args s 0 0 A) (F0 m 12 ls []) := by
  have hx := F.1
  have hb := F.2.1
  intro k
  induction k with
  | zero =>
    intro st x2 x3 x5 x6 hf
    exact absurd hf (by simp [f_X9_forceAbove_12])
  | succ k ih =>
    intro st x2 x3 x5 x6 hf H locs ls Z hl
    rw [f_X9_forceAbove_12] at hf
    refine lv_iload hx hb dX9_forceAbove_12 (lv_at hl 4 rfl) ?_
    refine lv_aload_n hx hb dX9_forceAbove_14 rfl (lv_at hl 0 rfl) ?_
    refine grX9_24_58 F K Z dX9_forceAbove_15 ?_
    refine lv_icmp_ge (tgt := 71) hx hb dX9_forceAbove_18 (by decide) (fun c18 => ?_) (fun c18 => ?_)
    · have hf := if_t c18 hf
      refine lv_iload hx hb dX9_forceAbove_71 (lv_at hl 3 rfl) ?_
      have hf := Option.some.inj hf
      subst hf
      exact ret_i F hr hk Z dX9_forceAbove_73
    have hf := if_f c18 hf
    refine lv_iload hx hb dX9_forceAbove_21 (lv_at hl 4 rfl) ?_
    refine lv_bipush (v := 60) hx hb dX9_forceAbove_23 (by decide) ?_
    refine lv_icmp_ge (tgt := 71) hx hb dX9_forceAbove_25 (by decide) (fun c25 => ?_) (fun c25 => ?_)
    · have hf := if_t c25 hf
      refine lv_iload hx hb dX9_forceAbove_71 (lv_at hl 3 rfl) ?_
      have hf := Option.some.inj hf
      subst hf
      exact ret_i F hr hk Z dX9_forceAbove_73
    have hf := if_f c25 hf
    refine lv_lload_n hx hb dX9_forceAbove_28 rfl (lv_at hl 2 rfl) ?_
    refine lv_iload hx hb dX9_forceAbove_29 (lv_at hl 4 rfl) ?_
    refine lv_lushr hx hb dX9_forceAbove_31 rfl ?_
    refine lv_lconst (v := 1) hx hb dX9_forceAbove_32 (by decide) ?_
    refine lv_land hx hb dX9_forceAbove_33 ?_
    refine lv_lconst (v := 1) hx hb dX9_forceAbove_34 (by decide) ?_
    refine W.lcmp hx hb dX9_forceAbove_35 ?_
    refine lv_if_ne (tgt := 65) hx hb dX9_forceAbove_36 (by decide) (fun c36 => ?_) (fun c36 => ?_)
    · have hf := if_f c36 hf
      refine lv_iinc (v := (x6 + (1 : Int32))) (lv' := [(6, .int (x6 + (1 : Int32))), (0, .ref (ad 58)), (2, .int x2), (3, .long x3), (5, .int x5)]) hx hb dX9_forceAbove_65 hl (k := 4) rfl (congrArg (fun z => x6 + z) (by decide)) (by decide) rfl (fun ls hl => ?_)
      refine lv_goto (tgt := 12) hx hb dX9_forceAbove_68 (by decide) ?_
      exact ih _ _ _ _ _ hf _ _ _ Z (lv_sub hl [1, 2, 3, 4, 0] rfl)
    have hf := if_t c36 hf
    refine lv_aload_n hx hb dX9_forceAbove_39 rfl (lv_at hl 0 rfl) ?_
    refine lv_iload hx hb dX9_forceAbove_40 (lv_at hl 4 rfl) ?_
    refine lv_iload_n hx hb dX9_forceAbove_42 rfl (lv_at hl 1 rfl) ?_
    obtain ⟨q43, h43, hf⟩ := bind_some hf
    refine krX9_45_X9_forces F K E hA Z h43 ⟨Nat.le_of_ble_eq_true rfl, Nat.le_of_ble_eq_true rfl⟩ hl.1 (Nat.le_of_ble_eq_true rfl) dX9_forceAbove_43 (fun H locs Z => ?_)
    refine lv_if_ne (tgt := 65) hx hb dX9_forceAbove_46 (by decide) (fun c46 => ?_) (fun c46 => ?_)
    · have hf := if_f c46 hf
      refine lv_iinc (v := (x6 + (1 : Int32))) (lv' := [(6, .int (x6 + (1 : Int32))), (0, .ref (ad 58)), (2, .int x2), (3, .long x3), (5, .int x5)]) hx hb dX9_forceAbove_65 hl (k := 4) rfl (congrArg (fun z => x6 + z) (by decide)) (by decide) rfl (fun ls hl => ?_)
      refine lv_goto (tgt := 12) hx hb dX9_forceAbove_68 (by decide) ?_
      exact ih _ _ _ _ _ hf _ _ _ Z (lv_sub hl [1, 2, 3, 4, 0] rfl)
    have hf := if_t c46 hf
    refine lv_aload_n hx hb dX9_forceAbove_49 rfl (lv_at hl 0 rfl) ?_
    refine grX9_15_58 F K Z dX9_forceAbove_50 ?_
    refine lv_iload hx hb dX9_forceAbove_53 (lv_at hl 4 rfl) ?_
    refine lv_dup2_11 hx hb dX9_forceAbove_55 rfl rfl ?_
    obtain ⟨i56, hf⟩ := if_some hf
    refine al60 F K Z i56 dX9_forceAbove_56 ?_
    refine lv_iconst (v := 1) hx hb dX9_forceAbove_57 (by decide) ?_
    refine lv_iload_n hx hb dX9_forceAbove_58 rfl (lv_at hl 1 rfl) ?_
    refine lv_ishl hx hb dX9_forceAbove_59 ?_
    refine lv_ior hx hb dX9_forceAbove_60 ?_
    obtain ⟨i61, hf⟩ := if_some hf
    refine as60 F K Z i61 dX9_forceAbove_61 (fun H locs Z => ?_)
    refine lv_iinc (v := (x5 + (1 : Int32))) (lv' := [(5, .int (x5 + (1 : Int32))), (0, .ref (ad 58)), (2, .int x2), (3, .long x3), (6, .int x6)]) hx hb dX9_forceAbove_62 hl (k := 3) rfl (congrArg (fun z => x5 + z) (by decide)) (by decide) rfl (fun ls hl => ?_)
    refine lv_iinc (v := (x6 + (1 : Int32))) (lv' := [(6, .int (x6 + (1 : Int32))), (5, .int (x5 + (1 : Int32))), (0, .ref (ad 58)), (2, .int x2), (3, .long x3)]) hx hb dX9_forceAbove_65 hl (k := 4) rfl (congrArg (fun z => x6 + z) (by decide)) (by decide) rfl (fun ls hl => ?_)
    refine lv_goto (tgt := 12) hx hb dX9_forceAbove_68 (by decide) ?_
    exact ih _ _ _ _ _ hf _ _ _ Z (lv_sub hl [2, 3, 4, 1, 0] rfl)
set_option maxRecDepth 100000 in
set_option maxHeartbeats 4000000 in
theorem c_X9_forceAbove {l : Launch} {D : va_G} {ad : Nat → Nat} {cy : Nat → ClassId} {ee : EE} {n : Nat} {st : StT} {x1 : Int32} {x2 : Int32} {res : (Int32 × StT)} (hf : f_X9_forceAbove n st x1 x2 = some res) : CT l yX9_forceAbove cX9_forceAbove 7 (some .int) 2 45 D cy ee (wC ad cy st) (wC ad cy res.2) [.ref (ad 58), .int x1, .int x2] (some (.int res.1)) := by
  refine CT.of (by decide +kernel) (Nat.le_of_ble_eq_true rfl) ?_
  intro p e s m args below meth c A F hr hk K E hA Z ls hl
  have hl : lv_has ls 7 [(0, .ref (ad 58)), (1, .int x1), (2, .int x2)] := hl
  have hx := F.1
  have hb := F.2.1
  unfold f_X9_forceAbove at hf
  refine lv_aload_n hx hb dX9_forceAbove_0 rfl (lv_at hl 0 rfl) ?_
  refine lv_iload_n hx hb dX9_forceAbove_1 rfl (lv_at hl 1 rfl) ?_
  obtain ⟨q2, h2, hf⟩ := bind_some hf
  refine krX9_58_X9_above F K E hA Z h2 ⟨Nat.le_of_ble_eq_true rfl, Nat.le_of_ble_eq_true rfl⟩ hl.1 (Nat.le_of_ble_eq_true rfl) dX9_forceAbove_2 (fun H locs Z => ?_)
  refine lv_lstore_n (lv' := [(3, .long q2.1), (0, .ref (ad 58)), (1, .int x1), (2, .int x2)]) hx hb dX9_forceAbove_5 rfl hl (by decide) rfl (fun ls hl => ?_)
  refine lv_iconst (v := 0) hx hb dX9_forceAbove_6 (by decide) ?_
  refine lv_istore (lv' := [(5, .int (0 : Int32)), (3, .long q2.1), (0, .ref (ad 58)), (1, .int x1), (2, .int x2)]) hx hb dX9_forceAbove_7 hl (by decide) rfl (fun ls hl => ?_)
  refine lv_iconst (v := 0) hx hb dX9_forceAbove_9 (by decide) ?_
  refine lv_istore (lv' := [(6, .int (0 : Int32)), (5, .int (0 : Int32)), (3, .long q2.1), (0, .ref (ad 58)), (1, .int x1), (2, .int x2)]) hx hb dX9_forceAbove_10 hl (by decide) rfl (fun ls hl => ?_)
  exact b_X9_forceAbove_12 F hr hk K E hA _ _ _ _ _ _ hf _ _ _ Z (lv_sub hl [3, 5, 2, 1, 0] rfl)
def f_X9_layChildren_35_38 (n : Nat) : Nat → StT → Int32 → Int32 → Int32 → Int32 → Option (Int32 × StT)
  | 0, _, _, _, _, _ => none
  | k + 1, st, x2, x4, x5, x6 => if x4 < 0 then (some (x4, st)) else (if (60 : Int32) ≤ x4 then (some (x4, st)) else ((f_X4_has n st x6).bind fun q53 => (if q53.1 = 0 then (some (x4, q53.2)) else (if inB x2 60 = true then ((f_X4_forcedIn n q53.2 x6).bind fun q71 => ((f_X9_lay n q71.2 x5 (q53.2.2.1 45 (x2).toNatClampNeg) q71.1).bind fun q74 => (if inB x4 60 = true then (if inB x4 60 = true then ((f_X4_totalOf n (uA (uA q74 44 x4 x6) 45 x4 x5) x6).bind fun q100 => ((f_X4_siblingOf n q100.2 x6).bind fun q109 => (f_X9_layChildren_35_38 n k q109.2 x2 (x4 + (1 : Int32)) (x5 + q100.1) q109.1))) else none) else none))) else none))))
def f_X9_layChildren_35 (n : Nat) (st : StT) (x2 : Int32) (x3 : Int32) : Option (Int32 × StT) := if x2 < 0 then (some (x3, st)) else (if x2 < (60 : Int32) then (if inB x2 60 = true then (if inB x2 60 = true then ((f_X4_firstChildOf n st (st.2.1 44 (x2).toNatClampNeg)).bind fun q33 => (f_X9_layChildren_35_38 n n q33.2 x2 x3 ((st.2.1 45 (x2).toNatClampNeg) + (1 : Int32)) q33.1)) else none) else none) else (some (x3, st)))
theorem wd336 : Cond.fieldLink RX9 18 "WorldProver$Worlds" "nodes" "[I" ∈ Gw := gT2 (List.mem_of_getElem? (i := 120) rfl) rfl
theorem wd337 : Cond.fieldLink RX9 21 "WorldProver$Worlds" "numbers" "[I" ∈ Gw := gT2 (List.mem_of_getElem? (i := 121) rfl) rfl
theorem wd338 : Cond.methodLink RX9 75 yX4_firstChildOf ∈ Gw := gT5 (List.mem_of_getElem? (i := 205) rfl) rfl
theorem wd339 : Cond.code yX4_firstChildOf prog_6_method_8_code 2 (some .int) ∈ Gw := gT5 (List.mem_of_getElem? (i := 208) rfl) rfl
theorem wd340 : Cond.instanceMethod yX4_firstChildOf ∈ Gw := gT5 (List.mem_of_getElem? (i := 206) rfl) rfl
theorem wd341 : Cond.selects RX4 yX4_firstChildOf yX4_firstChildOf ∈ Gw := gT5 (List.mem_of_getElem? (i := 207) rfl) rfl
theorem wd342 : Cond.methodLink RX9 79 yX4_siblingOf ∈ Gw := gT5 (List.mem_of_getElem? (i := 210) rfl) rfl
theorem wd343 : Cond.code yX4_siblingOf prog_6_method_9_code 2 (some .int) ∈ Gw := gT5 (List.mem_of_getElem? (i := 213) rfl) rfl
theorem wd344 : Cond.instanceMethod yX4_siblingOf ∈ Gw := gT5 (List.mem_of_getElem? (i := 211) rfl) rfl
theorem wd345 : Cond.selects RX4 yX4_siblingOf yX4_siblingOf ∈ Gw := gT5 (List.mem_of_getElem? (i := 212) rfl) rfl
theorem wd346 : Cond.methodLink RX9 62 yX4_totalOf ∈ Gw := gT5 (List.mem_of_getElem? (i := 189) rfl) rfl
theorem wd347 : Cond.code yX4_totalOf prog_6_method_10_code 2 (some .int) ∈ Gw := gT5 (List.mem_of_getElem? (i := 192) rfl) rfl
theorem wd348 : Cond.instanceMethod yX4_totalOf ∈ Gw := gT5 (List.mem_of_getElem? (i := 190) rfl) rfl
theorem wd349 : Cond.selects RX4 yX4_totalOf yX4_totalOf ∈ Gw := gT5 (List.mem_of_getElem? (i := 191) rfl) rfl
theorem wd350 : Cond.methodLink RX9 68 yX4_forcedIn ∈ Gw := gT5 (List.mem_of_getElem? (i := 193) rfl) rfl
theorem wd351 : Cond.code yX4_forcedIn prog_6_method_7_code 2 (some .int) ∈ Gw := gT5 (List.mem_of_getElem? (i := 196) rfl) rfl
theorem wd352 : Cond.instanceMethod yX4_forcedIn ∈ Gw := gT5 (List.mem_of_getElem? (i := 194) rfl) rfl
theorem wd353 : Cond.selects RX4 yX4_forcedIn yX4_forcedIn ∈ Gw := gT5 (List.mem_of_getElem? (i := 195) rfl) rfl
theorem wd354 : Cond.methodLink RX9 78 yX4_has ∈ Gw := gT5 (List.mem_of_getElem? (i := 209) rfl) rfl
section
variable {p : Program} {l : Launch} {e : Env} {R : Room} {s : State} {m : MethodId} {args : Array Value} {below : List Frame} {meth : Method} {c : Code} {H : Heap} {locs : List Loc} {Q : State → Prop}
variable {cc : ByteArray} {nL pc : Nat} {ls : Array Slot} {rest : List Value} {D : va_G} {A : Nat → Prop} {cw : Cond} {ad : Nat → Nat} {cy : Nat → ClassId} {ee : EE} {st : StT} {own : String}
theorem grX9_18_58 (F : CallFix p m c cc nL s args (cw :: Gw) RX9) (K : va_K D vwCl (tyL cy) s) (Z : ZG D (wC ad cy st) A s H locs) (hd : decode cc pc = .ok (.getfield 18, 3)) (kk : W p l e R s m args below meth c H locs 0 0 Q (F0 m (pc + 3) ls (.ref (ad 61) :: rest))) : W p l e R s m args below meth c H locs 0 0 Q (F0 m pc ls (.ref (ad 58) :: rest)) :=
  va_get (D := D) (ci := 9) (C := RX9) (T := TX9) (N := 6) F.1 F.2.1 F.2.2.2.2 (fun w h => List.mem_cons_of_mem _ (inG_X9 w h)) F.2.2.2.1 K Z.1 58 rfl rfl 3 (by decide) (F.2.2.2.2 _ (List.mem_cons_of_mem _ wd336)) (fun _ h => h) rfl hd kk
theorem as61 {i : Int32} {v : Int32} (F : CallFix p m c cc nL s args (cw :: Gw) own) (K : va_K D vwCl (tyL cy) s) (Z : ZG D (wC ad cy st) A s H locs) (hi : inB i 60 = true) (hd : decode cc pc = .ok (.iastore, 1)) (kk : ∀ (H1 : Heap) (locs1 : List Loc), ZG D (wC ad cy (uA st 44 i v)) A s H1 locs1 → W p l e R s m args below meth c H1 locs1 0 0 Q (F0 m (pc + 1) ls rest)) : W p l e R s m args below meth c H locs 0 0 Q (F0 m pc ls (.int v :: .int i :: .ref (ad 61) :: rest)) :=
  va_iast F.1 F.2.1 K Z.1 Z.2.1 Z.2.2 61 1 rfl rfl (inB_vp hi) hd (fun H1 locs1 hP hD hS => kk H1 locs1 ⟨hP, hD, hS⟩)
theorem grX9_21_58 (F : CallFix p m c cc nL s args (cw :: Gw) RX9) (K : va_K D vwCl (tyL cy) s) (Z : ZG D (wC ad cy st) A s H locs) (hd : decode cc pc = .ok (.getfield 21, 3)) (kk : W p l e R s m args below meth c H locs 0 0 Q (F0 m (pc + 3) ls (.ref (ad 62) :: rest))) : W p l e R s m args below meth c H locs 0 0 Q (F0 m pc ls (.ref (ad 58) :: rest)) :=
  va_get (D := D) (ci := 9) (C := RX9) (T := TX9) (N := 6) F.1 F.2.1 F.2.2.2.2 (fun w h => List.mem_cons_of_mem _ (inG_X9 w h)) F.2.2.2.1 K Z.1 58 rfl rfl 4 (by decide) (F.2.2.2.2 _ (List.mem_cons_of_mem _ wd337)) (fun _ h => h) rfl hd kk
theorem as62 {i : Int32} {v : Int32} (F : CallFix p m c cc nL s args (cw :: Gw) own) (K : va_K D vwCl (tyL cy) s) (Z : ZG D (wC ad cy st) A s H locs) (hi : inB i 60 = true) (hd : decode cc pc = .ok (.iastore, 1)) (kk : ∀ (H1 : Heap) (locs1 : List Loc), ZG D (wC ad cy (uA st 45 i v)) A s H1 locs1 → W p l e R s m args below meth c H1 locs1 0 0 Q (F0 m (pc + 1) ls rest)) : W p l e R s m args below meth c H locs 0 0 Q (F0 m pc ls (.int v :: .int i :: .ref (ad 62) :: rest)) :=
  va_iast F.1 F.2.1 K Z.1 Z.2.1 Z.2.2 62 1 rfl rfl (inB_vp hi) hd (fun H1 locs1 hP hD hS => kk H1 locs1 ⟨hP, hD, hS⟩)
theorem al62 {i : Int32} (F : CallFix p m c cc nL s args (cw :: Gw) own) (K : va_K D vwCl (tyL cy) s) (Z : ZG D (wC ad cy st) A s H locs) (hi : inB i 60 = true) (hd : decode cc pc = .ok (.iaload, 1)) (kk : W p l e R s m args below meth c H locs 0 0 Q (F0 m (pc + 1) ls (.int (st.2.1 45 i.toNatClampNeg) :: rest))) : W p l e R s m args below meth c H locs 0 0 Q (F0 m pc ls (.int i :: .ref (ad 62) :: rest)) :=
  va_iald F.1 F.2.1 K Z.1 62 1 rfl rfl (inB_vp hi) hd kk
theorem al61 {i : Int32} (F : CallFix p m c cc nL s args (cw :: Gw) own) (K : va_K D vwCl (tyL cy) s) (Z : ZG D (wC ad cy st) A s H locs) (hi : inB i 60 = true) (hd : decode cc pc = .ok (.iaload, 1)) (kk : W p l e R s m args below meth c H locs 0 0 Q (F0 m (pc + 1) ls (.int (st.2.1 44 i.toNatClampNeg) :: rest))) : W p l e R s m args below meth c H locs 0 0 Q (F0 m pc ls (.int i :: .ref (ad 61) :: rest)) :=
  va_iald F.1 F.2.1 K Z.1 61 1 rfl rfl (inB_vp hi) hd kk
theorem krX9_75_X4_firstChildOf {n : Nat} {a0 : Int32} {q : (Int32 × StT)} (F : CallFix p m c cc nL s args (cw :: Gw) RX9) (K : va_K D vwCl (tyL cy) s) (E : EV ee A s s.heap) (hA : ∀ q, s.heap.size ≤ q → A q) (Z : ZG D (wC ad cy st) A s H locs) (hf : f_X4_firstChildOf n st a0 = some q) (hR : 2 ≤ R.frames ∧ 42 ≤ R.locals) (hl : ls.size = nL) (hst : (rest.map fun v => v.category).sum ≤ 8) (hd : decode cc pc = .ok (.invokevirtual 75, 3)) (kk : ∀ (H1 : Heap) (locs1 : List Loc), ZG D (wC ad cy q.2) A s H1 locs1 → W p l e R s m args below meth c H1 locs1 0 0 Q (F0 m (pc + 3) ls (.int q.1 :: rest))) : W p l e R s m args below meth c H locs 0 0 Q (F0 m pc ls (.int a0 :: .ref (ad 35) :: rest)) :=
  call_V (q := (RX4, TX4, 7)) (n := 1) (As := [.int a0]) (rv := some (.int q.1)) 35 4 F K E hA Z (c_X4_firstChildOf (l := l) (D := D) (ad := ad) (cy := cy) (ee := ee) hf) ⟨wd339, wd338, wd340, wd341, wd108⟩ (by decide +kernel) rfl rfl hR rfl hl hst hd kk
theorem krX9_79_X4_siblingOf {n : Nat} {a0 : Int32} {q : (Int32 × StT)} (F : CallFix p m c cc nL s args (cw :: Gw) RX9) (K : va_K D vwCl (tyL cy) s) (E : EV ee A s s.heap) (hA : ∀ q, s.heap.size ≤ q → A q) (Z : ZG D (wC ad cy st) A s H locs) (hf : f_X4_siblingOf n st a0 = some q) (hR : 2 ≤ R.frames ∧ 42 ≤ R.locals) (hl : ls.size = nL) (hst : (rest.map fun v => v.category).sum ≤ 8) (hd : decode cc pc = .ok (.invokevirtual 79, 3)) (kk : ∀ (H1 : Heap) (locs1 : List Loc), ZG D (wC ad cy q.2) A s H1 locs1 → W p l e R s m args below meth c H1 locs1 0 0 Q (F0 m (pc + 3) ls (.int q.1 :: rest))) : W p l e R s m args below meth c H locs 0 0 Q (F0 m pc ls (.int a0 :: .ref (ad 35) :: rest)) :=
  call_V (q := (RX4, TX4, 7)) (n := 1) (As := [.int a0]) (rv := some (.int q.1)) 35 4 F K E hA Z (c_X4_siblingOf (l := l) (D := D) (ad := ad) (cy := cy) (ee := ee) hf) ⟨wd343, wd342, wd344, wd345, wd108⟩ (by decide +kernel) rfl rfl hR rfl hl hst hd kk
theorem krX9_62_X4_totalOf {n : Nat} {a0 : Int32} {q : (Int32 × StT)} (F : CallFix p m c cc nL s args (cw :: Gw) RX9) (K : va_K D vwCl (tyL cy) s) (E : EV ee A s s.heap) (hA : ∀ q, s.heap.size ≤ q → A q) (Z : ZG D (wC ad cy st) A s H locs) (hf : f_X4_totalOf n st a0 = some q) (hR : 2 ≤ R.frames ∧ 42 ≤ R.locals) (hl : ls.size = nL) (hst : (rest.map fun v => v.category).sum ≤ 8) (hd : decode cc pc = .ok (.invokevirtual 62, 3)) (kk : ∀ (H1 : Heap) (locs1 : List Loc), ZG D (wC ad cy q.2) A s H1 locs1 → W p l e R s m args below meth c H1 locs1 0 0 Q (F0 m (pc + 3) ls (.int q.1 :: rest))) : W p l e R s m args below meth c H locs 0 0 Q (F0 m pc ls (.int a0 :: .ref (ad 35) :: rest)) :=
  call_V (q := (RX4, TX4, 7)) (n := 1) (As := [.int a0]) (rv := some (.int q.1)) 35 4 F K E hA Z (c_X4_totalOf (l := l) (D := D) (ad := ad) (cy := cy) (ee := ee) hf) ⟨wd347, wd346, wd348, wd349, wd108⟩ (by decide +kernel) rfl rfl hR rfl hl hst hd kk
theorem krX9_68_X4_forcedIn {n : Nat} {a0 : Int32} {q : (Int32 × StT)} (F : CallFix p m c cc nL s args (cw :: Gw) RX9) (K : va_K D vwCl (tyL cy) s) (E : EV ee A s s.heap) (hA : ∀ q, s.heap.size ≤ q → A q) (Z : ZG D (wC ad cy st) A s H locs) (hf : f_X4_forcedIn n st a0 = some q) (hR : 2 ≤ R.frames ∧ 42 ≤ R.locals) (hl : ls.size = nL) (hst : (rest.map fun v => v.category).sum ≤ 8) (hd : decode cc pc = .ok (.invokevirtual 68, 3)) (kk : ∀ (H1 : Heap) (locs1 : List Loc), ZG D (wC ad cy q.2) A s H1 locs1 → W p l e R s m args below meth c H1 locs1 0 0 Q (F0 m (pc + 3) ls (.int q.1 :: rest))) : W p l e R s m args below meth c H locs 0 0 Q (F0 m pc ls (.int a0 :: .ref (ad 35) :: rest)) :=
  call_V (q := (RX4, TX4, 7)) (n := 1) (As := [.int a0]) (rv := some (.int q.1)) 35 4 F K E hA Z (c_X4_forcedIn (l := l) (D := D) (ad := ad) (cy := cy) (ee := ee) hf) ⟨wd351, wd350, wd352, wd353, wd108⟩ (by decide +kernel) rfl rfl hR rfl hl hst hd kk
theorem krX9_78_X4_has {n : Nat} {a0 : Int32} {q : (Int32 × StT)} (F : CallFix p m c cc nL s args (cw :: Gw) RX9) (K : va_K D vwCl (tyL cy) s) (E : EV ee A s s.heap) (hA : ∀ q, s.heap.size ≤ q → A q) (Z : ZG D (wC ad cy st) A s H locs) (hf : f_X4_has n st a0 = some q) (hR : 1 ≤ R.frames ∧ 21 ≤ R.locals) (hl : ls.size = nL) (hst : (rest.map fun v => v.category).sum ≤ 8) (hd : decode cc pc = .ok (.invokevirtual 78, 3)) (kk : ∀ (H1 : Heap) (locs1 : List Loc), ZG D (wC ad cy q.2) A s H1 locs1 → W p l e R s m args below meth c H1 locs1 0 0 Q (F0 m (pc + 3) ls (.int q.1 :: rest))) : W p l e R s m args below meth c H locs 0 0 Q (F0 m pc ls (.int a0 :: .ref (ad 35) :: rest)) :=
  call_V (q := (RX4, TX4, 7)) (n := 1) (As := [.int a0]) (rv := some (.int q.1)) 35 4 F K E hA Z (c_X4_has (l := l) (D := D) (ad := ad) (cy := cy) (ee := ee) hf) ⟨wd105, wd354, wd106, wd107, wd108⟩ (by decide +kernel) rfl rfl hR rfl hl hst hd kk
end
set_option maxRecDepth 100000 in
set_option maxHeartbeats 4000000 in
theorem b_X9_layChildren_35_38 {p : Program} {l : Launch} {e : Env} {s : State} {m : MethodId} {args : Array Value} {below : List Frame} {meth : Method} {c : Code} {D : va_G} {A : Nat → Prop} {ad : Nat → Nat} {cy : Nat → ClassId} {ee : EE} {n : Nat} {res : (Int32 × StT)} (F : CallFix p m c cX9_layChildren 7 s args (Cond.code yX9_layChildren cX9_layChildren 7 (some .int) :: Gw) yX9_layChildren.cls) (hr : meth.sig.returnType = (some .int)) (hk : meth.locks = false) (K : va_K D vwCl (tyL cy) s) (E : EV ee A s s.heap) (hA : ∀ q, s.heap.size ≤ q → A q) : ∀ (k : Nat) (st : StT) (x2 : Int32) (x4 : Int32) (x5 : Int32) (x6 : Int32), f_X9_layChildren_35_38 n k st x2 x4 x5 x6 = some res → ∀ (H : Heap) (locs : List Loc) (ls : Array Slot), ZG D (wC ad cy st) A s H locs → lv_has ls 7 [(0, .ref (ad 58)), (1, .ref (ad 35)), (2, .int x2), (4, .int x4), (5, .int x5), (6, .int x6)] → W p l e { frames := 2, cells := 0, slots := 0, locals := 42 } s m args below meth c H locs 0 0 (MQ below (QC D (some (.int res.1)) (wC ad cy res.2) A) args s 0 0 A) (F0 m 38 ls []) := by
  have hx := F.1
  have hb := F.2.1
  intro k
  induction k with
  | zero =>
    intro st x2 x4 x5 x6 hf
    exact absurd hf (by simp [f_X9_layChildren_35_38])
  | succ k ih =>
    intro st x2 x4 x5 x6 hf H locs ls Z hl
    rw [f_X9_layChildren_35_38] at hf
    refine lv_iload hx hb dX9_layChildren_38 (lv_at hl 3 rfl) ?_
    refine lv_if_lt (tgt := 120) hx hb dX9_layChildren_40 (by decide) (fun c40 => ?_) (fun c40 => ?_)
    · have hf := if_t c40 hf
      refine lv_iload hx hb dX9_layChildren_120 (lv_at hl 3 rfl) ?_
      have hf := Option.some.inj hf
      subst hf
      exact ret_i F hr hk Z dX9_layChildren_122
    have hf := if_f c40 hf
    refine lv_iload hx hb dX9_layChildren_43 (lv_at hl 3 rfl) ?_
    refine lv_bipush (v := 60) hx hb dX9_layChildren_45 (by decide) ?_
    refine lv_icmp_ge (tgt := 120) hx hb dX9_layChildren_47 (by decide) (fun c47 => ?_) (fun c47 => ?_)
    · have hf := if_t c47 hf
      refine lv_iload hx hb dX9_layChildren_120 (lv_at hl 3 rfl) ?_
      have hf := Option.some.inj hf
      subst hf
      exact ret_i F hr hk Z dX9_layChildren_122
    have hf := if_f c47 hf
    refine lv_aload_n hx hb dX9_layChildren_50 rfl (lv_at hl 1 rfl) ?_
    refine lv_iload hx hb dX9_layChildren_51 (lv_at hl 5 rfl) ?_
    obtain ⟨q53, h53, hf⟩ := bind_some hf
    refine krX9_78_X4_has F K E hA Z h53 ⟨Nat.le_of_ble_eq_true rfl, Nat.le_of_ble_eq_true rfl⟩ hl.1 (Nat.le_of_ble_eq_true rfl) dX9_layChildren_53 (fun H locs Z => ?_)
    refine lv_if_eq (tgt := 120) hx hb dX9_layChildren_56 (by decide) (fun c56 => ?_) (fun c56 => ?_)
    · have hf := if_t c56 hf
      refine lv_iload hx hb dX9_layChildren_120 (lv_at hl 3 rfl) ?_
      have hf := Option.some.inj hf
      subst hf
      exact ret_i F hr hk Z dX9_layChildren_122
    have hf := if_f c56 hf
    refine lv_aload_n hx hb dX9_layChildren_59 rfl (lv_at hl 0 rfl) ?_
    refine lv_iload hx hb dX9_layChildren_60 (lv_at hl 4 rfl) ?_
    refine lv_aload_n hx hb dX9_layChildren_62 rfl (lv_at hl 0 rfl) ?_
    refine grX9_21_58 F K Z dX9_layChildren_63 ?_
    refine lv_iload_n hx hb dX9_layChildren_66 rfl (lv_at hl 2 rfl) ?_
    obtain ⟨i67, hf⟩ := if_some hf
    refine al62 F K Z i67 dX9_layChildren_67 ?_
    refine lv_aload_n hx hb dX9_layChildren_68 rfl (lv_at hl 1 rfl) ?_
    refine lv_iload hx hb dX9_layChildren_69 (lv_at hl 5 rfl) ?_
    obtain ⟨q71, h71, hf⟩ := bind_some hf
    refine krX9_68_X4_forcedIn F K E hA Z h71 ⟨Nat.le_of_ble_eq_true rfl, Nat.le_of_ble_eq_true rfl⟩ hl.1 (Nat.le_of_ble_eq_true rfl) dX9_layChildren_71 (fun H locs Z => ?_)
    obtain ⟨q74, h74, hf⟩ := bind_some hf
    refine krX9_36_X9_lay F K E hA Z h74 ⟨Nat.le_of_ble_eq_true rfl, Nat.le_of_ble_eq_true rfl⟩ hl.1 (Nat.le_of_ble_eq_true rfl) dX9_layChildren_74 (fun H locs Z => ?_)
    refine lv_aload_n hx hb dX9_layChildren_77 rfl (lv_at hl 0 rfl) ?_
    refine grX9_18_58 F K Z dX9_layChildren_78 ?_
    refine lv_iload hx hb dX9_layChildren_81 (lv_at hl 3 rfl) ?_
    refine lv_iload hx hb dX9_layChildren_83 (lv_at hl 5 rfl) ?_
    obtain ⟨i85, hf⟩ := if_some hf
    refine as61 F K Z i85 dX9_layChildren_85 (fun H locs Z => ?_)
    refine lv_aload_n hx hb dX9_layChildren_86 rfl (lv_at hl 0 rfl) ?_
    refine grX9_21_58 F K Z dX9_layChildren_87 ?_
    refine lv_iload hx hb dX9_layChildren_90 (lv_at hl 3 rfl) ?_
    refine lv_iload hx hb dX9_layChildren_92 (lv_at hl 4 rfl) ?_
    obtain ⟨i94, hf⟩ := if_some hf
    refine as62 F K Z i94 dX9_layChildren_94 (fun H locs Z => ?_)
    refine lv_iload hx hb dX9_layChildren_95 (lv_at hl 4 rfl) ?_
    refine lv_aload_n hx hb dX9_layChildren_97 rfl (lv_at hl 1 rfl) ?_
    refine lv_iload hx hb dX9_layChildren_98 (lv_at hl 5 rfl) ?_
    obtain ⟨q100, h100, hf⟩ := bind_some hf
    refine krX9_62_X4_totalOf F K E hA Z h100 ⟨Nat.le_of_ble_eq_true rfl, Nat.le_of_ble_eq_true rfl⟩ hl.1 (Nat.le_of_ble_eq_true rfl) dX9_layChildren_100 (fun H locs Z => ?_)
    refine lv_iadd hx hb dX9_layChildren_103 ?_
    refine lv_istore (lv' := [(5, .int (x5 + q100.1)), (0, .ref (ad 58)), (1, .ref (ad 35)), (2, .int x2), (4, .int x4), (6, .int x6)]) hx hb dX9_layChildren_104 hl (by decide) rfl (fun ls hl => ?_)
    refine lv_aload_n hx hb dX9_layChildren_106 rfl (lv_at hl 2 rfl) ?_
    refine lv_iload hx hb dX9_layChildren_107 (lv_at hl 5 rfl) ?_
    obtain ⟨q109, h109, hf⟩ := bind_some hf
    refine krX9_79_X4_siblingOf F K E hA Z h109 ⟨Nat.le_of_ble_eq_true rfl, Nat.le_of_ble_eq_true rfl⟩ hl.1 (Nat.le_of_ble_eq_true rfl) dX9_layChildren_109 (fun H locs Z => ?_)
    refine lv_istore (lv' := [(6, .int q109.1), (5, .int (x5 + q100.1)), (0, .ref (ad 58)), (1, .ref (ad 35)), (2, .int x2), (4, .int x4)]) hx hb dX9_layChildren_112 hl (by decide) rfl (fun ls hl => ?_)
    refine lv_iinc (v := (x4 + (1 : Int32))) (lv' := [(4, .int (x4 + (1 : Int32))), (6, .int q109.1), (5, .int (x5 + q100.1)), (0, .ref (ad 58)), (1, .ref (ad 35)), (2, .int x2)]) hx hb dX9_layChildren_114 hl (k := 5) rfl (congrArg (fun z => x4 + z) (by decide)) (by decide) rfl (fun ls hl => ?_)
    refine lv_goto (tgt := 38) hx hb dX9_layChildren_117 (by decide) ?_
    exact ih _ _ _ _ _ hf _ _ _ Z (lv_sub hl [3, 4, 5, 0, 2, 1] rfl)
set_option maxRecDepth 100000 in
set_option maxHeartbeats 4000000 in
theorem c_X9_layChildren_35 {l : Launch} {D : va_G} {ad : Nat → Nat} {cy : Nat → ClassId} {ee : EE} {n : Nat} {st : StT} {x2 : Int32} {x3 : Int32} {res : (Int32 × StT)} (hf : f_X9_layChildren_35 n st x2 x3 = some res) : CT l yX9_layChildren cX9_layChildren 7 (some .int) 2 42 D cy ee (wC ad cy st) (wC ad cy res.2) [.ref (ad 58), .ref (ad 35), .int x2, .int x3] (some (.int res.1)) := by
  refine CT.of (by decide +kernel) (Nat.le_of_ble_eq_true rfl) ?_
  intro p e s m args below meth c A F hr hk K E hA Z ls hl
  have hl : lv_has ls 7 [(0, .ref (ad 58)), (1, .ref (ad 35)), (2, .int x2), (3, .int x3)] := hl
  have hx := F.1
  have hb := F.2.1
  unfold f_X9_layChildren_35 at hf
  refine lv_iload_n hx hb dX9_layChildren_0 rfl (lv_at hl 3 rfl) ?_
  refine lv_istore (lv' := [(4, .int x3), (0, .ref (ad 58)), (1, .ref (ad 35)), (2, .int x2), (3, .int x3)]) hx hb dX9_layChildren_1 hl (by decide) rfl (fun ls hl => ?_)
  refine lv_iload_n hx hb dX9_layChildren_3 rfl (lv_at hl 3 rfl) ?_
  refine lv_if_lt (tgt := 13) hx hb dX9_layChildren_4 (by decide) (fun c4 => ?_) (fun c4 => ?_)
  · have hf := if_t c4 hf
    refine lv_iload hx hb dX9_layChildren_13 (lv_at hl 0 rfl) ?_
    have hf := Option.some.inj hf
    subst hf
    exact ret_i F hr hk Z dX9_layChildren_15
  have hf := if_f c4 hf
  refine lv_iload_n hx hb dX9_layChildren_7 rfl (lv_at hl 3 rfl) ?_
  refine lv_bipush (v := 60) hx hb dX9_layChildren_8 (by decide) ?_
  refine lv_icmp_lt (tgt := 16) hx hb dX9_layChildren_10 (by decide) (fun c10 => ?_) (fun c10 => ?_)
  · have hf := if_t c10 hf
    refine lv_aload_n hx hb dX9_layChildren_16 rfl (lv_at hl 1 rfl) ?_
    refine grX9_21_58 F K Z dX9_layChildren_17 ?_
    refine lv_iload_n hx hb dX9_layChildren_20 rfl (lv_at hl 3 rfl) ?_
    obtain ⟨i21, hf⟩ := if_some hf
    refine al62 F K Z i21 dX9_layChildren_21 ?_
    refine lv_iconst (v := 1) hx hb dX9_layChildren_22 (by decide) ?_
    refine lv_iadd hx hb dX9_layChildren_23 ?_
    refine lv_istore (lv' := [(5, .int ((st.2.1 45 (x2).toNatClampNeg) + (1 : Int32))), (4, .int x3), (0, .ref (ad 58)), (1, .ref (ad 35)), (2, .int x2), (3, .int x3)]) hx hb dX9_layChildren_24 hl (by decide) rfl (fun ls hl => ?_)
    refine lv_aload_n hx hb dX9_layChildren_26 rfl (lv_at hl 3 rfl) ?_
    refine lv_aload_n hx hb dX9_layChildren_27 rfl (lv_at hl 2 rfl) ?_
    refine grX9_18_58 F K Z dX9_layChildren_28 ?_
    refine lv_iload_n hx hb dX9_layChildren_31 rfl (lv_at hl 4 rfl) ?_
    obtain ⟨i32, hf⟩ := if_some hf
    refine al61 F K Z i32 dX9_layChildren_32 ?_
    obtain ⟨q33, h33, hf⟩ := bind_some hf
    refine krX9_75_X4_firstChildOf F K E hA Z h33 ⟨Nat.le_of_ble_eq_true rfl, Nat.le_of_ble_eq_true rfl⟩ hl.1 (Nat.le_of_ble_eq_true rfl) dX9_layChildren_33 (fun H locs Z => ?_)
    refine lv_istore (lv' := [(6, .int q33.1), (5, .int ((st.2.1 45 (x2).toNatClampNeg) + (1 : Int32))), (4, .int x3), (0, .ref (ad 58)), (1, .ref (ad 35)), (2, .int x2), (3, .int x3)]) hx hb dX9_layChildren_36 hl (by decide) rfl (fun ls hl => ?_)
    exact b_X9_layChildren_35_38 F hr hk K E hA _ _ _ _ _ _ hf _ _ _ Z (lv_sub hl [3, 4, 5, 2, 1, 0] rfl)
  have hf := if_f c10 hf
  refine lv_iload hx hb dX9_layChildren_13 (lv_at hl 0 rfl) ?_
  have hf := Option.some.inj hf
  subst hf
  exact ret_i F hr hk Z dX9_layChildren_15
def f_X9_take_35_51 (n : Nat) : Nat → StT → Int32 → Int32 → Int32 → Option (Int32 × StT)
  | 0, _, _, _, _ => none
  | k + 1, st, x3, x4, x5 => if x4 ≤ x5 then (some (((uF st 27 x3).1 27), (uF st 27 x3))) else (if x3 ≤ x5 then (some (((uF st 27 x3).1 27), (uF st 27 x3))) else ((f_X9_layChildren_35 n st x5 x4).bind fun q70 => (f_X9_take_35_51 n k q70.2 x3 q70.1 (x5 + (1 : Int32)))))
def f_X9_take_35 (n : Nat) (st : StT) (x2 : Int32) : Option (Int32 × StT) := (f_X4_totalOf n st x2).bind fun q2 => (if q2.1 < (1 : Int32) then (some ((-4 : Int32), q2.2)) else (if q2.1 ≤ (60 : Int32) then ((f_X4_forcedIn n q2.2 x2).bind fun q25 => ((f_X9_lay n q25.2 (0 : Int32) (-1 : Int32) q25.1).bind fun q28 => (if inB (0 : Int32) 60 = true then (if inB (0 : Int32) 60 = true then (f_X9_take_35_51 n n (uA (uA q28 44 (0 : Int32) x2) 45 (0 : Int32) (0 : Int32)) q2.1 (1 : Int32) (0 : Int32)) else none) else none))) else (some ((-4 : Int32), q2.2))))
theorem wd355 : Cond.methodLink RX9 71 yX9_layChildren ∈ Gw := gT5 (List.mem_of_getElem? (i := 201) rfl) rfl
theorem wd356 : Cond.code yX9_layChildren prog_11_method_14_code 7 (some .int) ∈ Gw := gT5 (List.mem_of_getElem? (i := 204) rfl) rfl
theorem wd357 : Cond.instanceMethod yX9_layChildren ∈ Gw := gT5 (List.mem_of_getElem? (i := 203) rfl) rfl
theorem wd358 : Cond.selects RX9 yX9_layChildren yX9_layChildren ∈ Gw := gP5 (q := (yX9_layChildren, 6)) (List.mem_of_getElem? (i := 3) rfl)
section
variable {p : Program} {l : Launch} {e : Env} {R : Room} {s : State} {m : MethodId} {args : Array Value} {below : List Frame} {meth : Method} {c : Code} {H : Heap} {locs : List Loc} {Q : State → Prop}
variable {cc : ByteArray} {nL pc : Nat} {ls : Array Slot} {rest : List Value} {D : va_G} {A : Nat → Prop} {cw : Cond} {ad : Nat → Nat} {cy : Nat → ClassId} {ee : EE} {st : StT} {own : String}
theorem krX9_71_X9_layChildren_35 {n : Nat} {a1 : Int32} {a2 : Int32} {q : (Int32 × StT)} (F : CallFix p m c cc nL s args (cw :: Gw) RX9) (K : va_K D vwCl (tyL cy) s) (E : EV ee A s s.heap) (hA : ∀ q, s.heap.size ≤ q → A q) (Z : ZG D (wC ad cy st) A s H locs) (hf : f_X9_layChildren_35 n st a1 a2 = some q) (hR : 3 ≤ R.frames ∧ 68 ≤ R.locals) (hl : ls.size = nL) (hst : (rest.map fun v => v.category).sum ≤ 8) (hd : decode cc pc = .ok (.invokevirtual 71, 3)) (kk : ∀ (H1 : Heap) (locs1 : List Loc), ZG D (wC ad cy q.2) A s H1 locs1 → W p l e R s m args below meth c H1 locs1 0 0 Q (F0 m (pc + 3) ls (.int q.1 :: rest))) : W p l e R s m args below meth c H locs 0 0 Q (F0 m pc ls (.int a2 :: .int a1 :: .ref (ad 35) :: .ref (ad 58) :: rest)) :=
  call_V (q := (RX9, TX9, 6)) (n := 3) (As := [.ref (ad 35), .int a1, .int a2]) (rv := some (.int q.1)) 58 9 F K E hA Z (c_X9_layChildren_35 (l := l) (D := D) (ad := ad) (cy := cy) (ee := ee) hf) ⟨wd356, wd355, wd357, wd358, wd319⟩ (by decide +kernel) rfl rfl hR rfl hl hst hd kk
end
set_option maxRecDepth 100000 in
set_option maxHeartbeats 4000000 in
theorem b_X9_take_35_51 {p : Program} {l : Launch} {e : Env} {s : State} {m : MethodId} {args : Array Value} {below : List Frame} {meth : Method} {c : Code} {D : va_G} {A : Nat → Prop} {ad : Nat → Nat} {cy : Nat → ClassId} {ee : EE} {n : Nat} {res : (Int32 × StT)} (F : CallFix p m c cX9_take 6 s args (Cond.code yX9_take cX9_take 6 (some .int) :: Gw) yX9_take.cls) (hr : meth.sig.returnType = (some .int)) (hk : meth.locks = false) (K : va_K D vwCl (tyL cy) s) (E : EV ee A s s.heap) (hA : ∀ q, s.heap.size ≤ q → A q) : ∀ (k : Nat) (st : StT) (x3 : Int32) (x4 : Int32) (x5 : Int32), f_X9_take_35_51 n k st x3 x4 x5 = some res → ∀ (H : Heap) (locs : List Loc) (ls : Array Slot), ZG D (wC ad cy st) A s H locs → lv_has ls 6 [(0, .ref (ad 58)), (1, .ref (ad 35)), (3, .int x3), (4, .int x4), (5, .int x5)] → W p l e { frames := 3, cells := 0, slots := 0, locals := 68 } s m args below meth c H locs 0 0 (MQ below (QC D (some (.int res.1)) (wC ad cy res.2) A) args s 0 0 A) (F0 m 51 ls []) := by
  have hx := F.1
  have hb := F.2.1
  intro k
  induction k with
  | zero =>
    intro st x3 x4 x5 hf
    exact absurd hf (by simp [f_X9_take_35_51])
  | succ k ih =>
    intro st x3 x4 x5 hf H locs ls Z hl
    rw [f_X9_take_35_51] at hf
    refine lv_iload hx hb dX9_take_51 (lv_at hl 4 rfl) ?_
    refine lv_iload hx hb dX9_take_53 (lv_at hl 3 rfl) ?_
    refine lv_icmp_ge (tgt := 81) hx hb dX9_take_55 (by decide) (fun c55 => ?_) (fun c55 => ?_)
    · have hf := if_t c55 hf
      refine lv_aload_n hx hb dX9_take_81 rfl (lv_at hl 0 rfl) ?_
      refine lv_iload_n hx hb dX9_take_82 rfl (lv_at hl 2 rfl) ?_
      refine prX9_24_58 F K Z dX9_take_83 (fun H locs Z => ?_)
      refine lv_aload_n hx hb dX9_take_86 rfl (lv_at hl 0 rfl) ?_
      refine grX9_24_58 F K Z dX9_take_87 ?_
      have hf := Option.some.inj hf
      subst hf
      exact ret_i F hr hk Z dX9_take_90
    have hf := if_f c55 hf
    refine lv_iload hx hb dX9_take_58 (lv_at hl 4 rfl) ?_
    refine lv_iload_n hx hb dX9_take_60 rfl (lv_at hl 2 rfl) ?_
    refine lv_icmp_ge (tgt := 81) hx hb dX9_take_61 (by decide) (fun c61 => ?_) (fun c61 => ?_)
    · have hf := if_t c61 hf
      refine lv_aload_n hx hb dX9_take_81 rfl (lv_at hl 0 rfl) ?_
      refine lv_iload_n hx hb dX9_take_82 rfl (lv_at hl 2 rfl) ?_
      refine prX9_24_58 F K Z dX9_take_83 (fun H locs Z => ?_)
      refine lv_aload_n hx hb dX9_take_86 rfl (lv_at hl 0 rfl) ?_
      refine grX9_24_58 F K Z dX9_take_87 ?_
      have hf := Option.some.inj hf
      subst hf
      exact ret_i F hr hk Z dX9_take_90
    have hf := if_f c61 hf
    refine lv_aload_n hx hb dX9_take_64 rfl (lv_at hl 0 rfl) ?_
    refine lv_aload_n hx hb dX9_take_65 rfl (lv_at hl 1 rfl) ?_
    refine lv_iload hx hb dX9_take_66 (lv_at hl 4 rfl) ?_
    refine lv_iload hx hb dX9_take_68 (lv_at hl 3 rfl) ?_
    obtain ⟨q70, h70, hf⟩ := bind_some hf
    refine krX9_71_X9_layChildren_35 F K E hA Z h70 ⟨Nat.le_of_ble_eq_true rfl, Nat.le_of_ble_eq_true rfl⟩ hl.1 (Nat.le_of_ble_eq_true rfl) dX9_take_70 (fun H locs Z => ?_)
    refine lv_istore (lv' := [(4, .int q70.1), (0, .ref (ad 58)), (1, .ref (ad 35)), (3, .int x3), (5, .int x5)]) hx hb dX9_take_73 hl (by decide) rfl (fun ls hl => ?_)
    refine lv_iinc (v := (x5 + (1 : Int32))) (lv' := [(5, .int (x5 + (1 : Int32))), (4, .int q70.1), (0, .ref (ad 58)), (1, .ref (ad 35)), (3, .int x3)]) hx hb dX9_take_75 hl (k := 4) rfl (congrArg (fun z => x5 + z) (by decide)) (by decide) rfl (fun ls hl => ?_)
    refine lv_goto (tgt := 51) hx hb dX9_take_78 (by decide) ?_
    exact ih _ _ _ _ hf _ _ _ Z (lv_sub hl [2, 3, 4, 1, 0] rfl)
set_option maxRecDepth 100000 in
set_option maxHeartbeats 4000000 in
theorem c_X9_take_35 {l : Launch} {D : va_G} {ad : Nat → Nat} {cy : Nat → ClassId} {ee : EE} {n : Nat} {st : StT} {x2 : Int32} {res : (Int32 × StT)} (hf : f_X9_take_35 n st x2 = some res) : CT l yX9_take cX9_take 6 (some .int) 3 68 D cy ee (wC ad cy st) (wC ad cy res.2) [.ref (ad 58), .ref (ad 35), .int x2] (some (.int res.1)) := by
  refine CT.of (by decide +kernel) (Nat.le_of_ble_eq_true rfl) ?_
  intro p e s m args below meth c A F hr hk K E hA Z ls hl
  have hl : lv_has ls 6 [(0, .ref (ad 58)), (1, .ref (ad 35)), (2, .int x2)] := hl
  have hx := F.1
  have hb := F.2.1
  unfold f_X9_take_35 at hf
  refine lv_aload_n hx hb dX9_take_0 rfl (lv_at hl 1 rfl) ?_
  refine lv_iload_n hx hb dX9_take_1 rfl (lv_at hl 2 rfl) ?_
  obtain ⟨q2, h2, hf⟩ := bind_some hf
  refine krX9_62_X4_totalOf F K E hA Z h2 ⟨Nat.le_of_ble_eq_true rfl, Nat.le_of_ble_eq_true rfl⟩ hl.1 (Nat.le_of_ble_eq_true rfl) dX9_take_2 (fun H locs Z => ?_)
  refine lv_istore_n (lv' := [(3, .int q2.1), (0, .ref (ad 58)), (1, .ref (ad 35)), (2, .int x2)]) hx hb dX9_take_5 rfl hl (by decide) rfl (fun ls hl => ?_)
  refine lv_iload_n hx hb dX9_take_6 rfl (lv_at hl 0 rfl) ?_
  refine lv_iconst (v := 1) hx hb dX9_take_7 (by decide) ?_
  refine lv_icmp_lt (tgt := 17) hx hb dX9_take_8 (by decide) (fun c8 => ?_) (fun c8 => ?_)
  · have hf := if_t c8 hf
    refine lv_bipush (v := -4) hx hb dX9_take_17 (by decide) ?_
    have hf := Option.some.inj hf
    subst hf
    exact ret_i F hr hk Z dX9_take_19
  have hf := if_f c8 hf
  refine lv_iload_n hx hb dX9_take_11 rfl (lv_at hl 0 rfl) ?_
  refine lv_bipush (v := 60) hx hb dX9_take_12 (by decide) ?_
  refine lv_icmp_le (tgt := 20) hx hb dX9_take_14 (by decide) (fun c14 => ?_) (fun c14 => ?_)
  · have hf := if_t c14 hf
    refine lv_aload_n hx hb dX9_take_20 rfl (lv_at hl 1 rfl) ?_
    refine lv_iconst (v := 0) hx hb dX9_take_21 (by decide) ?_
    refine lv_iconst (v := -1) hx hb dX9_take_22 (by decide) ?_
    refine lv_aload_n hx hb dX9_take_23 rfl (lv_at hl 2 rfl) ?_
    refine lv_iload_n hx hb dX9_take_24 rfl (lv_at hl 3 rfl) ?_
    obtain ⟨q25, h25, hf⟩ := bind_some hf
    refine krX9_68_X4_forcedIn F K E hA Z h25 ⟨Nat.le_of_ble_eq_true rfl, Nat.le_of_ble_eq_true rfl⟩ hl.1 (Nat.le_of_ble_eq_true rfl) dX9_take_25 (fun H locs Z => ?_)
    obtain ⟨q28, h28, hf⟩ := bind_some hf
    refine krX9_36_X9_lay F K E hA Z h28 ⟨Nat.le_of_ble_eq_true rfl, Nat.le_of_ble_eq_true rfl⟩ hl.1 (Nat.le_of_ble_eq_true rfl) dX9_take_28 (fun H locs Z => ?_)
    refine lv_aload_n hx hb dX9_take_31 rfl (lv_at hl 1 rfl) ?_
    refine grX9_18_58 F K Z dX9_take_32 ?_
    refine lv_iconst (v := 0) hx hb dX9_take_35 (by decide) ?_
    refine lv_iload_n hx hb dX9_take_36 rfl (lv_at hl 3 rfl) ?_
    obtain ⟨i37, hf⟩ := if_some hf
    refine as61 F K Z i37 dX9_take_37 (fun H locs Z => ?_)
    refine lv_aload_n hx hb dX9_take_38 rfl (lv_at hl 1 rfl) ?_
    refine grX9_21_58 F K Z dX9_take_39 ?_
    refine lv_iconst (v := 0) hx hb dX9_take_42 (by decide) ?_
    refine lv_iconst (v := 0) hx hb dX9_take_43 (by decide) ?_
    obtain ⟨i44, hf⟩ := if_some hf
    refine as62 F K Z i44 dX9_take_44 (fun H locs Z => ?_)
    refine lv_iconst (v := 1) hx hb dX9_take_45 (by decide) ?_
    refine lv_istore (lv' := [(4, .int (1 : Int32)), (3, .int q2.1), (0, .ref (ad 58)), (1, .ref (ad 35)), (2, .int x2)]) hx hb dX9_take_46 hl (by decide) rfl (fun ls hl => ?_)
    refine lv_iconst (v := 0) hx hb dX9_take_48 (by decide) ?_
    refine lv_istore (lv' := [(5, .int (0 : Int32)), (4, .int (1 : Int32)), (3, .int q2.1), (0, .ref (ad 58)), (1, .ref (ad 35)), (2, .int x2)]) hx hb dX9_take_49 hl (by decide) rfl (fun ls hl => ?_)
    exact b_X9_take_35_51 F hr hk K E hA _ _ _ _ _ hf _ _ _ Z (lv_sub hl [3, 4, 2, 1, 0] rfl)
  have hf := if_f c14 hf
  refine lv_bipush (v := -4) hx hb dX9_take_17 (by decide) ?_
  have hf := Option.some.inj hf
  subst hf
  exact ret_i F hr hk Z dX9_take_19
def f_X2_isPart (n : Nat) (st : StT) (x0 : Int32) : Option (Int32 × StT) := if x0 < 0 then (some ((0 : Int32), st)) else (if (2000 : Int32) ≤ x0 then (some ((0 : Int32), st)) else (some ((1 : Int32), st)))
set_option maxRecDepth 100000 in
set_option maxHeartbeats 4000000 in
theorem c_X2_isPart {l : Launch} {D : va_G} {ad : Nat → Nat} {cy : Nat → ClassId} {ee : EE} {n : Nat} {st : StT} {x0 : Int32} {res : (Int32 × StT)} (hf : f_X2_isPart n st x0 = some res) : CT l yX2_isPart cX2_isPart 1 (some .boolean) 0 0 D cy ee (wC ad cy st) (wC ad cy res.2) [.int x0] (some (.int res.1)) := by
  refine CT.of (by decide +kernel) (Nat.le_of_ble_eq_true rfl) ?_
  intro p e s m args below meth c A F hr hk K E hA Z ls hl
  have hl : lv_has ls 1 [(0, .int x0)] := hl
  have hx := F.1
  have hb := F.2.1
  unfold f_X2_isPart at hf
  refine lv_iload_n hx hb dX2_isPart_0 rfl (lv_at hl 0 rfl) ?_
  refine lv_if_lt (tgt := 15) hx hb dX2_isPart_1 (by decide) (fun c1 => ?_) (fun c1 => ?_)
  · have hf := if_t c1 hf
    refine lv_iconst (v := 0) hx hb dX2_isPart_15 (by decide) ?_
    have hf := Option.some.inj hf
    subst hf
    exact ret_z F hr hk Z rfl dX2_isPart_16
  have hf := if_f c1 hf
  refine lv_iload_n hx hb dX2_isPart_4 rfl (lv_at hl 0 rfl) ?_
  refine lv_sipush (v := 2000) hx hb dX2_isPart_5 (by decide) ?_
  refine lv_icmp_ge (tgt := 15) hx hb dX2_isPart_8 (by decide) (fun c8 => ?_) (fun c8 => ?_)
  · have hf := if_t c8 hf
    refine lv_iconst (v := 0) hx hb dX2_isPart_15 (by decide) ?_
    have hf := Option.some.inj hf
    subst hf
    exact ret_z F hr hk Z rfl dX2_isPart_16
  have hf := if_f c8 hf
  refine lv_iconst (v := 1) hx hb dX2_isPart_11 (by decide) ?_
  refine lv_goto (tgt := 16) hx hb dX2_isPart_12 (by decide) ?_
  have hf := Option.some.inj hf
  subst hf
  exact ret_z F hr hk Z rfl dX2_isPart_16
def f_X2_mark (n : Nat) (st : StT) (x1 : Int32) : Option StT := (f_X2_isPart n st x1).bind fun q1 => (if q1.1 = 0 then (some q1.2) else (if inB x1 2000 = true then (some (uA q1.2 41 x1 (vp_nar .byte (1 : Int32)))) else none))
theorem wd359 : Cond.laysFinal RX2 "WorldProver$Parts" "formulas" "LWorldProver$Formulas;" ∈ Gw := gT2 (List.mem_of_getElem? (i := 104) rfl) rfl
theorem wd360 : Cond.laysFinal RX2 "WorldProver$Parts" "marks" "[B" ∈ Gw := gT2 (List.mem_of_getElem? (i := 106) rfl) rfl
theorem wd361 : Cond.laysFinal RX2 "WorldProver$Parts" "values" "[J" ∈ Gw := gT2 (List.mem_of_getElem? (i := 108) rfl) rfl
theorem wd362 : Cond.fieldLink RX2 9 "WorldProver$Parts" "marks" "[B" ∈ Gw := gT2 (List.mem_of_getElem? (i := 102) rfl) rfl
theorem wd363 : Cond.methodLink RX2 23 yX2_isPart ∈ Gw := gT5 (List.mem_of_getElem? (i := 146) rfl) rfl
theorem wd364 : Cond.code yX2_isPart prog_4_method_2_code 1 (some .boolean) ∈ Gw := gT5 (List.mem_of_getElem? (i := 148) rfl) rfl
theorem wd365 : Cond.static yX2_isPart ∈ Gw := gT5 (List.mem_of_getElem? (i := 147) rfl) rfl
theorem wd366 : Cond.initialized RX2 ∈ Gw := gT1 (List.mem_of_getElem? (i := 12) rfl) rfl
theorem inG_X2 : ∀ w ∈ u_ws RX2 TX2 3, w ∈ Gw := by
  intro w h
  obtain ⟨k, hk, rfl⟩ := List.mem_map.mp h
  have hk := List.mem_range.mp hk
  by_cases h0 : k = 0
  · subst h0; exact wd359
  by_cases h1 : k = 1
  · subst h1; exact wd360
  by_cases h2 : k = 2
  · subst h2; exact wd361
  omega
section
variable {p : Program} {l : Launch} {e : Env} {R : Room} {s : State} {m : MethodId} {args : Array Value} {below : List Frame} {meth : Method} {c : Code} {H : Heap} {locs : List Loc} {Q : State → Prop}
variable {cc : ByteArray} {nL pc : Nat} {ls : Array Slot} {rest : List Value} {D : va_G} {A : Nat → Prop} {cw : Cond} {ad : Nat → Nat} {cy : Nat → ClassId} {ee : EE} {st : StT} {own : String}
theorem grX2_9_55 (F : CallFix p m c cc nL s args (cw :: Gw) RX2) (K : va_K D vwCl (tyL cy) s) (Z : ZG D (wC ad cy st) A s H locs) (hd : decode cc pc = .ok (.getfield 9, 3)) (kk : W p l e R s m args below meth c H locs 0 0 Q (F0 m (pc + 3) ls (.ref (ad 56) :: rest))) : W p l e R s m args below meth c H locs 0 0 Q (F0 m pc ls (.ref (ad 55) :: rest)) :=
  va_get (D := D) (ci := 2) (C := RX2) (T := TX2) (N := 3) F.1 F.2.1 F.2.2.2.2 (fun w h => List.mem_cons_of_mem _ (inG_X2 w h)) F.2.2.2.1 K Z.1 55 rfl rfl 1 (by decide) (F.2.2.2.2 _ (List.mem_cons_of_mem _ wd362)) (fun _ h => h) rfl hd kk
theorem as56 {i : Int32} {v : Int32} (F : CallFix p m c cc nL s args (cw :: Gw) own) (K : va_K D vwCl (tyL cy) s) (Z : ZG D (wC ad cy st) A s H locs) (hi : inB i 2000 = true) (hd : decode cc pc = .ok (.bastore, 1)) (kk : ∀ (H1 : Heap) (locs1 : List Loc), ZG D (wC ad cy (uA st 41 i (vp_nar .byte v))) A s H1 locs1 → W p l e R s m args below meth c H1 locs1 0 0 Q (F0 m (pc + 1) ls rest)) : W p l e R s m args below meth c H locs 0 0 Q (F0 m pc ls (.int v :: .int i :: .ref (ad 56) :: rest)) :=
  va_bast F.1 F.2.1 K Z.1 Z.2.1 Z.2.2 56 0 rfl rfl (inB_vp hi) hd (fun H1 locs1 hP hD hS => kk H1 locs1 ⟨hP, hD, hS⟩)
theorem krX2_23_X2_isPart {n : Nat} {a0 : Int32} {q : (Int32 × StT)} (F : CallFix p m c cc nL s args (cw :: Gw) RX2) (K : va_K D vwCl (tyL cy) s) (E : EV ee A s s.heap) (hA : ∀ q, s.heap.size ≤ q → A q) (Z : ZG D (wC ad cy st) A s H locs) (hf : f_X2_isPart n st a0 = some q) (hR : 1 ≤ R.frames ∧ 20 ≤ R.locals) (hl : ls.size = nL) (hst : (rest.map fun v => v.category).sum ≤ 8) (hd : decode cc pc = .ok (.invokestatic 23, 3)) (kk : ∀ (H1 : Heap) (locs1 : List Loc), ZG D (wC ad cy q.2) A s H1 locs1 → W p l e R s m args below meth c H1 locs1 0 0 Q (F0 m (pc + 3) ls (.int q.1 :: rest))) : W p l e R s m args below meth c H locs 0 0 Q (F0 m pc ls (.int a0 :: rest)) :=
  call_S (n := 1) (As := [.int a0]) (rv := some (.int q.1)) F K E hA Z (c_X2_isPart (l := l) (D := D) (ad := ad) (cy := cy) (ee := ee) hf) ⟨wd364, wd363, wd365, wd366⟩ (by decide +kernel) hR rfl hl hst hd kk
end
set_option maxRecDepth 100000 in
set_option maxHeartbeats 4000000 in
theorem c_X2_mark {l : Launch} {D : va_G} {ad : Nat → Nat} {cy : Nat → ClassId} {ee : EE} {n : Nat} {st : StT} {x1 : Int32} {res : StT} (hf : f_X2_mark n st x1 = some res) : CT l yX2_mark cX2_mark 2 none 1 20 D cy ee (wC ad cy st) (wC ad cy res) [.ref (ad 55), .int x1] (none) := by
  refine CT.of (by decide +kernel) (Nat.le_of_ble_eq_true rfl) ?_
  intro p e s m args below meth c A F hr hk K E hA Z ls hl
  have hl : lv_has ls 2 [(0, .ref (ad 55)), (1, .int x1)] := hl
  have hx := F.1
  have hb := F.2.1
  unfold f_X2_mark at hf
  refine lv_iload_n hx hb dX2_mark_0 rfl (lv_at hl 1 rfl) ?_
  obtain ⟨q1, h1, hf⟩ := bind_some hf
  refine krX2_23_X2_isPart F K E hA Z h1 ⟨Nat.le_of_ble_eq_true rfl, Nat.le_of_ble_eq_true rfl⟩ hl.1 (Nat.le_of_ble_eq_true rfl) dX2_mark_1 (fun H locs Z => ?_)
  refine lv_if_eq (tgt := 14) hx hb dX2_mark_4 (by decide) (fun c4 => ?_) (fun c4 => ?_)
  · have hf := if_t c4 hf
    have hf := Option.some.inj hf
    subst hf
    exact ret_v F hr hk Z dX2_mark_14
  have hf := if_f c4 hf
  refine lv_aload_n hx hb dX2_mark_7 rfl (lv_at hl 0 rfl) ?_
  refine grX2_9_55 F K Z dX2_mark_8 ?_
  refine lv_iload_n hx hb dX2_mark_11 rfl (lv_at hl 1 rfl) ?_
  refine lv_iconst (v := 1) hx hb dX2_mark_12 (by decide) ?_
  obtain ⟨i13, hf⟩ := if_some hf
  refine as56 F K Z i13 dX2_mark_13 (fun H locs Z => ?_)
  have hf := Option.some.inj hf
  subst hf
  exact ret_v F hr hk Z dX2_mark_14
def f_X2_valueOf (n : Nat) (st : StT) (x1 : Int32) : Option (Int64 × StT) := (f_X2_isPart n st x1).bind fun q1 => (if q1.1 = 0 then (some ((0 : Int64), q1.2)) else (if inB x1 2000 = true then (some ((q1.2.2.2.2 2 (x1).toNatClampNeg), q1.2)) else none))
theorem wd367 : Cond.fieldLink RX2 15 "WorldProver$Parts" "values" "[J" ∈ Gw := gT2 (List.mem_of_getElem? (i := 103) rfl) rfl
section
variable {p : Program} {l : Launch} {e : Env} {R : Room} {s : State} {m : MethodId} {args : Array Value} {below : List Frame} {meth : Method} {c : Code} {H : Heap} {locs : List Loc} {Q : State → Prop}
variable {cc : ByteArray} {nL pc : Nat} {ls : Array Slot} {rest : List Value} {D : va_G} {A : Nat → Prop} {cw : Cond} {ad : Nat → Nat} {cy : Nat → ClassId} {ee : EE} {st : StT} {own : String}
theorem grX2_15_55 (F : CallFix p m c cc nL s args (cw :: Gw) RX2) (K : va_K D vwCl (tyL cy) s) (Z : ZG D (wC ad cy st) A s H locs) (hd : decode cc pc = .ok (.getfield 15, 3)) (kk : W p l e R s m args below meth c H locs 0 0 Q (F0 m (pc + 3) ls (.ref (ad 57) :: rest))) : W p l e R s m args below meth c H locs 0 0 Q (F0 m pc ls (.ref (ad 55) :: rest)) :=
  va_get (D := D) (ci := 2) (C := RX2) (T := TX2) (N := 3) F.1 F.2.1 F.2.2.2.2 (fun w h => List.mem_cons_of_mem _ (inG_X2 w h)) F.2.2.2.1 K Z.1 55 rfl rfl 2 (by decide) (F.2.2.2.2 _ (List.mem_cons_of_mem _ wd367)) (fun _ h => h) rfl hd kk
theorem al57 {i : Int32} (F : CallFix p m c cc nL s args (cw :: Gw) own) (K : va_K D vwCl (tyL cy) s) (Z : ZG D (wC ad cy st) A s H locs) (hi : inB i 2000 = true) (hd : decode cc pc = .ok (.laload, 1)) (kk : W p l e R s m args below meth c H locs 0 0 Q (F0 m (pc + 1) ls (.long (st.2.2.2 2 i.toNatClampNeg) :: rest))) : W p l e R s m args below meth c H locs 0 0 Q (F0 m pc ls (.int i :: .ref (ad 57) :: rest)) :=
  va_lald F.1 F.2.1 K Z.1 57 2 rfl rfl (inB_vp hi) hd kk
end
set_option maxRecDepth 100000 in
set_option maxHeartbeats 4000000 in
theorem c_X2_valueOf {l : Launch} {D : va_G} {ad : Nat → Nat} {cy : Nat → ClassId} {ee : EE} {n : Nat} {st : StT} {x1 : Int32} {res : (Int64 × StT)} (hf : f_X2_valueOf n st x1 = some res) : CT l yX2_valueOf cX2_valueOf 2 (some .long) 1 20 D cy ee (wC ad cy st) (wC ad cy res.2) [.ref (ad 55), .int x1] (some (.long res.1)) := by
  refine CT.of (by decide +kernel) (Nat.le_of_ble_eq_true rfl) ?_
  intro p e s m args below meth c A F hr hk K E hA Z ls hl
  have hl : lv_has ls 2 [(0, .ref (ad 55)), (1, .int x1)] := hl
  have hx := F.1
  have hb := F.2.1
  unfold f_X2_valueOf at hf
  refine lv_iload_n hx hb dX2_valueOf_0 rfl (lv_at hl 1 rfl) ?_
  obtain ⟨q1, h1, hf⟩ := bind_some hf
  refine krX2_23_X2_isPart F K E hA Z h1 ⟨Nat.le_of_ble_eq_true rfl, Nat.le_of_ble_eq_true rfl⟩ hl.1 (Nat.le_of_ble_eq_true rfl) dX2_valueOf_1 (fun H locs Z => ?_)
  refine lv_if_eq (tgt := 16) hx hb dX2_valueOf_4 (by decide) (fun c4 => ?_) (fun c4 => ?_)
  · have hf := if_t c4 hf
    refine lv_lconst (v := 0) hx hb dX2_valueOf_16 (by decide) ?_
    have hf := Option.some.inj hf
    subst hf
    exact ret_l F hr hk Z dX2_valueOf_17
  have hf := if_f c4 hf
  refine lv_aload_n hx hb dX2_valueOf_7 rfl (lv_at hl 0 rfl) ?_
  refine grX2_15_55 F K Z dX2_valueOf_8 ?_
  refine lv_iload_n hx hb dX2_valueOf_11 rfl (lv_at hl 1 rfl) ?_
  obtain ⟨i12, hf⟩ := if_some hf
  refine al57 F K Z i12 dX2_valueOf_12 ?_
  refine lv_goto (tgt := 17) hx hb dX2_valueOf_13 (by decide) ?_
  have hf := Option.some.inj hf
  subst hf
  exact ret_l F hr hk Z dX2_valueOf_17
def f_X2_markAll_68 (n : Nat) (k42 : StT → Int32 → Int32 → Option (Int32 × StT)) (st : StT) (x2 : Int32) (x3 : Int32) (y0 : Int32) : Option (Int32 × StT) := if y0 = (2 : Int32) then ((f_X1_firstOf_F0 n st x3).bind fun q83 => (k42 q83.2 (x2 ||| ((1 : Int32) <<< (q83.1 &&& 31))) (x3 + (-1 : Int32)))) else (if y0 < (3 : Int32) then (k42 st x2 (x3 + (-1 : Int32))) else ((f_X1_firstOf_F0 n st x3).bind fun q104 => ((f_X2_mark n q104.2 q104.1).bind fun q107 => ((f_X1_secondOf_F0 n q107 x3).bind fun q116 => ((f_X2_mark n q116.2 q116.1).bind fun q119 => (k42 q119 x2 (x3 + (-1 : Int32))))))))
def f_X2_markAll_42 (n : Nat) : Nat → StT → Int32 → Int32 → Option (Int32 × StT)
  | 0, _, _, _ => none
  | k + 1, st, x2, x3 => if x3 < 0 then (some (x2, st)) else (if inB x3 2000 = true then (if (st.2.1 41 (x3).toNatClampNeg) = (1 : Int32) then ((f_X1_kindOf_F0 n st x3).bind fun q61 => (f_X2_markAll_68 n (f_X2_markAll_42 n k) q61.2 x2 x3 q61.1)) else (f_X2_markAll_68 n (f_X2_markAll_42 n k) st x2 x3 (0 : Int32))) else none)
def f_X2_markAll_27 (n : Nat) (st : StT) (x1 : Int32) : Option (Int32 × StT) := (f_X2_mark n st x1).bind fun q29 => (f_X2_markAll_42 n n q29 (0 : Int32) (if (1999 : Int32) < x1 then (1999 : Int32) else x1))
def f_X2_markAll_2 (n : Nat) : Nat → StT → Int32 → Int32 → Option (Int32 × StT)
  | 0, _, _, _ => none
  | k + 1, st, x1, x2 => if x1 < x2 then (f_X2_markAll_27 n st x1) else (if (2000 : Int32) ≤ x2 then (f_X2_markAll_27 n st x1) else (if inB x2 2000 = true then (f_X2_markAll_2 n k (uA st 41 x2 (vp_nar .byte (0 : Int32))) x1 (x2 + (1 : Int32))) else none))
def f_X2_markAll (n : Nat) (st : StT) (x1 : Int32) : Option (Int32 × StT) := f_X2_markAll_2 n n st x1 (0 : Int32)
theorem wd368 : Cond.fieldLink RX2 19 "WorldProver$Parts" "formulas" "LWorldProver$Formulas;" ∈ Gw := gT2 (List.mem_of_getElem? (i := 101) rfl) rfl
theorem wd369 : Cond.methodLink RX2 31 yJ9_min_7cf53 ∈ Gw := gT5 (List.mem_of_getElem? (i := 149) rfl) rfl
theorem wd370 : Cond.methodLink RX2 27 yX2_mark ∈ Gw := gT5 (List.mem_of_getElem? (i := 142) rfl) rfl
theorem wd371 : Cond.code yX2_mark prog_4_method_3_code 2 none ∈ Gw := gT5 (List.mem_of_getElem? (i := 145) rfl) rfl
theorem wd372 : Cond.instanceMethod yX2_mark ∈ Gw := gT5 (List.mem_of_getElem? (i := 144) rfl) rfl
theorem wd373 : Cond.selects RX2 yX2_mark yX2_mark ∈ Gw := gP4 (q := (yX2_mark, 3)) (List.mem_of_getElem? (i := 13) rfl)
theorem wd374 : Cond.methodLink RX2 37 yX1_kindOf ∈ Gw := gT5 (List.mem_of_getElem? (i := 150) rfl) rfl
theorem wd375 : Cond.methodLink RX2 46 yX1_secondOf ∈ Gw := gT5 (List.mem_of_getElem? (i := 152) rfl) rfl
theorem wd376 : Cond.methodLink RX2 43 yX1_firstOf ∈ Gw := gT5 (List.mem_of_getElem? (i := 151) rfl) rfl
section
variable {p : Program} {l : Launch} {e : Env} {R : Room} {s : State} {m : MethodId} {args : Array Value} {below : List Frame} {meth : Method} {c : Code} {H : Heap} {locs : List Loc} {Q : State → Prop}
variable {cc : ByteArray} {nL pc : Nat} {ls : Array Slot} {rest : List Value} {D : va_G} {A : Nat → Prop} {cw : Cond} {ad : Nat → Nat} {cy : Nat → ClassId} {ee : EE} {st : StT} {own : String}
theorem al56 {i : Int32} (F : CallFix p m c cc nL s args (cw :: Gw) own) (K : va_K D vwCl (tyL cy) s) (Z : ZG D (wC ad cy st) A s H locs) (hi : inB i 2000 = true) (hd : decode cc pc = .ok (.baload, 1)) (kk : W p l e R s m args below meth c H locs 0 0 Q (F0 m (pc + 1) ls (.int (st.2.1 41 i.toNatClampNeg) :: rest))) : W p l e R s m args below meth c H locs 0 0 Q (F0 m pc ls (.int i :: .ref (ad 56) :: rest)) :=
  va_bald F.1 F.2.1 K Z.1 56 0 rfl rfl (inB_vp hi) hd kk
theorem grX2_19_55 (F : CallFix p m c cc nL s args (cw :: Gw) RX2) (K : va_K D vwCl (tyL cy) s) (Z : ZG D (wC ad cy st) A s H locs) (hd : decode cc pc = .ok (.getfield 19, 3)) (kk : W p l e R s m args below meth c H locs 0 0 Q (F0 m (pc + 3) ls (.ref (ad 4) :: rest))) : W p l e R s m args below meth c H locs 0 0 Q (F0 m pc ls (.ref (ad 55) :: rest)) :=
  va_get (D := D) (ci := 2) (C := RX2) (T := TX2) (N := 3) F.1 F.2.1 F.2.2.2.2 (fun w h => List.mem_cons_of_mem _ (inG_X2 w h)) F.2.2.2.1 K Z.1 55 rfl rfl 0 (by decide) (F.2.2.2.2 _ (List.mem_cons_of_mem _ wd368)) (fun _ h => h) rfl hd kk
theorem krX2_27_X2_mark {n : Nat} {a0 : Int32} {q : StT} (F : CallFix p m c cc nL s args (cw :: Gw) RX2) (K : va_K D vwCl (tyL cy) s) (E : EV ee A s s.heap) (hA : ∀ q, s.heap.size ≤ q → A q) (Z : ZG D (wC ad cy st) A s H locs) (hf : f_X2_mark n st a0 = some q) (hR : 2 ≤ R.frames ∧ 41 ≤ R.locals) (hl : ls.size = nL) (hst : (rest.map fun v => v.category).sum ≤ 8) (hd : decode cc pc = .ok (.invokevirtual 27, 3)) (kk : ∀ (H1 : Heap) (locs1 : List Loc), ZG D (wC ad cy q) A s H1 locs1 → W p l e R s m args below meth c H1 locs1 0 0 Q (F0 m (pc + 3) ls (rest))) : W p l e R s m args below meth c H locs 0 0 Q (F0 m pc ls (.int a0 :: .ref (ad 55) :: rest)) :=
  call_V (q := (RX2, TX2, 3)) (n := 1) (As := [.int a0]) (rv := none) 55 2 F K E hA Z (c_X2_mark (l := l) (D := D) (ad := ad) (cy := cy) (ee := ee) hf) ⟨wd371, wd370, wd372, wd373, wd366⟩ (by decide +kernel) rfl rfl hR rfl hl hst hd kk
theorem krX2_37_X1_kindOf_F0 {n : Nat} {a0 : Int32} {q : (Int32 × StT)} (F : CallFix p m c cc nL s args (cw :: Gw) RX2) (K : va_K D vwCl (tyL cy) s) (E : EV ee A s s.heap) (hA : ∀ q, s.heap.size ≤ q → A q) (Z : ZG D (wC ad cy st) A s H locs) (hf : f_X1_kindOf_F0 n st a0 = some q) (hR : 2 ≤ R.frames ∧ 42 ≤ R.locals) (hl : ls.size = nL) (hst : (rest.map fun v => v.category).sum ≤ 8) (hd : decode cc pc = .ok (.invokevirtual 37, 3)) (kk : ∀ (H1 : Heap) (locs1 : List Loc), ZG D (wC ad cy q.2) A s H1 locs1 → W p l e R s m args below meth c H1 locs1 0 0 Q (F0 m (pc + 3) ls (.int q.1 :: rest))) : W p l e R s m args below meth c H locs 0 0 Q (F0 m pc ls (.int a0 :: .ref (ad 4) :: rest)) :=
  call_V (q := (RX1, TX1, 9)) (n := 1) (As := [.int a0]) (rv := some (.int q.1)) 4 1 F K E hA Z (c_X1_kindOf_F0 (l := l) (D := D) (ad := ad) (cy := cy) (ee := ee) hf) ⟨wd147, wd374, wd148, wd149, wd17⟩ (by decide +kernel) rfl rfl hR rfl hl hst hd kk
theorem krX2_46_X1_secondOf_F0 {n : Nat} {a0 : Int32} {q : (Int32 × StT)} (F : CallFix p m c cc nL s args (cw :: Gw) RX2) (K : va_K D vwCl (tyL cy) s) (E : EV ee A s s.heap) (hA : ∀ q, s.heap.size ≤ q → A q) (Z : ZG D (wC ad cy st) A s H locs) (hf : f_X1_secondOf_F0 n st a0 = some q) (hR : 2 ≤ R.frames ∧ 42 ≤ R.locals) (hl : ls.size = nL) (hst : (rest.map fun v => v.category).sum ≤ 8) (hd : decode cc pc = .ok (.invokevirtual 46, 3)) (kk : ∀ (H1 : Heap) (locs1 : List Loc), ZG D (wC ad cy q.2) A s H1 locs1 → W p l e R s m args below meth c H1 locs1 0 0 Q (F0 m (pc + 3) ls (.int q.1 :: rest))) : W p l e R s m args below meth c H locs 0 0 Q (F0 m pc ls (.int a0 :: .ref (ad 4) :: rest)) :=
  call_V (q := (RX1, TX1, 9)) (n := 1) (As := [.int a0]) (rv := some (.int q.1)) 4 1 F K E hA Z (c_X1_secondOf_F0 (l := l) (D := D) (ad := ad) (cy := cy) (ee := ee) hf) ⟨wd199, wd375, wd200, wd201, wd17⟩ (by decide +kernel) rfl rfl hR rfl hl hst hd kk
theorem krX2_43_X1_firstOf_F0 {n : Nat} {a0 : Int32} {q : (Int32 × StT)} (F : CallFix p m c cc nL s args (cw :: Gw) RX2) (K : va_K D vwCl (tyL cy) s) (E : EV ee A s s.heap) (hA : ∀ q, s.heap.size ≤ q → A q) (Z : ZG D (wC ad cy st) A s H locs) (hf : f_X1_firstOf_F0 n st a0 = some q) (hR : 2 ≤ R.frames ∧ 42 ≤ R.locals) (hl : ls.size = nL) (hst : (rest.map fun v => v.category).sum ≤ 8) (hd : decode cc pc = .ok (.invokevirtual 43, 3)) (kk : ∀ (H1 : Heap) (locs1 : List Loc), ZG D (wC ad cy q.2) A s H1 locs1 → W p l e R s m args below meth c H1 locs1 0 0 Q (F0 m (pc + 3) ls (.int q.1 :: rest))) : W p l e R s m args below meth c H locs 0 0 Q (F0 m pc ls (.int a0 :: .ref (ad 4) :: rest)) :=
  call_V (q := (RX1, TX1, 9)) (n := 1) (As := [.int a0]) (rv := some (.int q.1)) 4 1 F K E hA Z (c_X1_firstOf_F0 (l := l) (D := D) (ad := ad) (cy := cy) (ee := ee) hf) ⟨wd143, wd376, wd144, wd145, wd17⟩ (by decide +kernel) rfl rfl hR rfl hl hst hd kk
end
set_option maxRecDepth 100000 in
set_option maxHeartbeats 4000000 in
theorem b_X2_markAll_68 {p : Program} {l : Launch} {e : Env} {s : State} {m : MethodId} {args : Array Value} {below : List Frame} {meth : Method} {c : Code} {D : va_G} {A : Nat → Prop} {ad : Nat → Nat} {cy : Nat → ClassId} {ee : EE} {n : Nat} {res : (Int32 × StT)} (F : CallFix p m c cX2_markAll 5 s args (Cond.code yX2_markAll cX2_markAll 5 (some .int) :: Gw) yX2_markAll.cls) (hr : meth.sig.returnType = (some .int)) (hk : meth.locks = false) (K : va_K D vwCl (tyL cy) s) (E : EV ee A s s.heap) (hA : ∀ q, s.heap.size ≤ q → A q) {k42 : StT → Int32 → Int32 → Option (Int32 × StT)} (hk42 : ∀ (st : StT) (x2 : Int32) (x3 : Int32), k42 st x2 x3 = some res → ∀ (H : Heap) (locs : List Loc) (ls : Array Slot), ZG D (wC ad cy st) A s H locs → lv_has ls 5 [(0, .ref (ad 55)), (2, .int x2), (3, .int x3)] → W p l e { frames := 2, cells := 0, slots := 0, locals := 42 } s m args below meth c H locs 0 0 (MQ below (QC D (some (.int res.1)) (wC ad cy res.2) A) args s 0 0 A) (F0 m 42 ls [])) : ∀ (st : StT) (x2 : Int32) (x3 : Int32) (y0 : Int32), f_X2_markAll_68 n k42 st x2 x3 y0 = some res → ∀ (H : Heap) (locs : List Loc) (ls : Array Slot), ZG D (wC ad cy st) A s H locs → lv_has ls 5 [(0, .ref (ad 55)), (2, .int x2), (3, .int x3)] → W p l e { frames := 2, cells := 0, slots := 0, locals := 42 } s m args below meth c H locs 0 0 (MQ below (QC D (some (.int res.1)) (wC ad cy res.2) A) args s 0 0 A) (F0 m 68 ls [.int y0]) := by
  have hx := F.1
  have hb := F.2.1
  intro st x2 x3 y0 hf H locs ls Z hl
  unfold f_X2_markAll_68 at hf
  refine lv_istore (lv' := [(4, .int y0), (0, .ref (ad 55)), (2, .int x2), (3, .int x3)]) hx hb dX2_markAll_68 hl (by decide) rfl (fun ls hl => ?_)
  refine lv_iload hx hb dX2_markAll_70 (lv_at hl 0 rfl) ?_
  refine lv_iconst (v := 2) hx hb dX2_markAll_72 (by decide) ?_
  refine lv_icmp_ne (tgt := 92) hx hb dX2_markAll_73 (by decide) (fun c73 => ?_) (fun c73 => ?_)
  · have hf := if_f c73 hf
    refine lv_iload hx hb dX2_markAll_92 (lv_at hl 0 rfl) ?_
    refine lv_iconst (v := 3) hx hb dX2_markAll_94 (by decide) ?_
    refine lv_icmp_lt (tgt := 122) hx hb dX2_markAll_95 (by decide) (fun c95 => ?_) (fun c95 => ?_)
    · have hf := if_t c95 hf
      refine lv_iinc (v := (x3 + (-1 : Int32))) (lv' := [(3, .int (x3 + (-1 : Int32))), (4, .int y0), (0, .ref (ad 55)), (2, .int x2)]) hx hb dX2_markAll_122 hl (k := 3) rfl (congrArg (fun z => x3 + z) (by decide)) (by decide) rfl (fun ls hl => ?_)
      refine lv_goto (tgt := 42) hx hb dX2_markAll_125 (by decide) ?_
      exact hk42 _ _ _ hf _ _ _ Z (lv_sub hl [2, 3, 0] rfl)
    have hf := if_f c95 hf
    refine lv_aload_n hx hb dX2_markAll_98 rfl (lv_at hl 1 rfl) ?_
    refine lv_aload_n hx hb dX2_markAll_99 rfl (lv_at hl 1 rfl) ?_
    refine grX2_19_55 F K Z dX2_markAll_100 ?_
    refine lv_iload_n hx hb dX2_markAll_103 rfl (lv_at hl 3 rfl) ?_
    obtain ⟨q104, h104, hf⟩ := bind_some hf
    refine krX2_43_X1_firstOf_F0 F K E hA Z h104 ⟨Nat.le_of_ble_eq_true rfl, Nat.le_of_ble_eq_true rfl⟩ hl.1 (Nat.le_of_ble_eq_true rfl) dX2_markAll_104 (fun H locs Z => ?_)
    obtain ⟨q107, h107, hf⟩ := bind_some hf
    refine krX2_27_X2_mark F K E hA Z h107 ⟨Nat.le_of_ble_eq_true rfl, Nat.le_of_ble_eq_true rfl⟩ hl.1 (Nat.le_of_ble_eq_true rfl) dX2_markAll_107 (fun H locs Z => ?_)
    refine lv_aload_n hx hb dX2_markAll_110 rfl (lv_at hl 1 rfl) ?_
    refine lv_aload_n hx hb dX2_markAll_111 rfl (lv_at hl 1 rfl) ?_
    refine grX2_19_55 F K Z dX2_markAll_112 ?_
    refine lv_iload_n hx hb dX2_markAll_115 rfl (lv_at hl 3 rfl) ?_
    obtain ⟨q116, h116, hf⟩ := bind_some hf
    refine krX2_46_X1_secondOf_F0 F K E hA Z h116 ⟨Nat.le_of_ble_eq_true rfl, Nat.le_of_ble_eq_true rfl⟩ hl.1 (Nat.le_of_ble_eq_true rfl) dX2_markAll_116 (fun H locs Z => ?_)
    obtain ⟨q119, h119, hf⟩ := bind_some hf
    refine krX2_27_X2_mark F K E hA Z h119 ⟨Nat.le_of_ble_eq_true rfl, Nat.le_of_ble_eq_true rfl⟩ hl.1 (Nat.le_of_ble_eq_true rfl) dX2_markAll_119 (fun H locs Z => ?_)
    refine lv_iinc (v := (x3 + (-1 : Int32))) (lv' := [(3, .int (x3 + (-1 : Int32))), (4, .int y0), (0, .ref (ad 55)), (2, .int x2)]) hx hb dX2_markAll_122 hl (k := 3) rfl (congrArg (fun z => x3 + z) (by decide)) (by decide) rfl (fun ls hl => ?_)
    refine lv_goto (tgt := 42) hx hb dX2_markAll_125 (by decide) ?_
    exact hk42 _ _ _ hf _ _ _ Z (lv_sub hl [2, 3, 0] rfl)
  have hf := if_t c73 hf
  refine lv_iload_n hx hb dX2_markAll_76 rfl (lv_at hl 2 rfl) ?_
  refine lv_iconst (v := 1) hx hb dX2_markAll_77 (by decide) ?_
  refine lv_aload_n hx hb dX2_markAll_78 rfl (lv_at hl 1 rfl) ?_
  refine grX2_19_55 F K Z dX2_markAll_79 ?_
  refine lv_iload_n hx hb dX2_markAll_82 rfl (lv_at hl 3 rfl) ?_
  obtain ⟨q83, h83, hf⟩ := bind_some hf
  refine krX2_43_X1_firstOf_F0 F K E hA Z h83 ⟨Nat.le_of_ble_eq_true rfl, Nat.le_of_ble_eq_true rfl⟩ hl.1 (Nat.le_of_ble_eq_true rfl) dX2_markAll_83 (fun H locs Z => ?_)
  refine lv_ishl hx hb dX2_markAll_86 ?_
  refine lv_ior hx hb dX2_markAll_87 ?_
  refine lv_istore_n (lv' := [(2, .int (x2 ||| ((1 : Int32) <<< (q83.1 &&& 31)))), (4, .int y0), (0, .ref (ad 55)), (3, .int x3)]) hx hb dX2_markAll_88 rfl hl (by decide) rfl (fun ls hl => ?_)
  refine lv_goto (tgt := 122) hx hb dX2_markAll_89 (by decide) ?_
  refine lv_iinc (v := (x3 + (-1 : Int32))) (lv' := [(3, .int (x3 + (-1 : Int32))), (2, .int (x2 ||| ((1 : Int32) <<< (q83.1 &&& 31)))), (4, .int y0), (0, .ref (ad 55))]) hx hb dX2_markAll_122 hl (k := 3) rfl (congrArg (fun z => x3 + z) (by decide)) (by decide) rfl (fun ls hl => ?_)
  refine lv_goto (tgt := 42) hx hb dX2_markAll_125 (by decide) ?_
  exact hk42 _ _ _ hf _ _ _ Z (lv_sub hl [3, 1, 0] rfl)
set_option maxRecDepth 100000 in
set_option maxHeartbeats 4000000 in
theorem b_X2_markAll_42 {p : Program} {l : Launch} {e : Env} {s : State} {m : MethodId} {args : Array Value} {below : List Frame} {meth : Method} {c : Code} {D : va_G} {A : Nat → Prop} {ad : Nat → Nat} {cy : Nat → ClassId} {ee : EE} {n : Nat} {res : (Int32 × StT)} (F : CallFix p m c cX2_markAll 5 s args (Cond.code yX2_markAll cX2_markAll 5 (some .int) :: Gw) yX2_markAll.cls) (hr : meth.sig.returnType = (some .int)) (hk : meth.locks = false) (K : va_K D vwCl (tyL cy) s) (E : EV ee A s s.heap) (hA : ∀ q, s.heap.size ≤ q → A q) : ∀ (k : Nat) (st : StT) (x2 : Int32) (x3 : Int32), f_X2_markAll_42 n k st x2 x3 = some res → ∀ (H : Heap) (locs : List Loc) (ls : Array Slot), ZG D (wC ad cy st) A s H locs → lv_has ls 5 [(0, .ref (ad 55)), (2, .int x2), (3, .int x3)] → W p l e { frames := 2, cells := 0, slots := 0, locals := 42 } s m args below meth c H locs 0 0 (MQ below (QC D (some (.int res.1)) (wC ad cy res.2) A) args s 0 0 A) (F0 m 42 ls []) := by
  have hx := F.1
  have hb := F.2.1
  intro k
  induction k with
  | zero =>
    intro st x2 x3 hf
    exact absurd hf (by simp [f_X2_markAll_42])
  | succ k ih =>
    intro st x2 x3 hf H locs ls Z hl
    rw [f_X2_markAll_42] at hf
    refine lv_iload_n hx hb dX2_markAll_42 rfl (lv_at hl 2 rfl) ?_
    refine lv_if_lt (tgt := 128) hx hb dX2_markAll_43 (by decide) (fun c43 => ?_) (fun c43 => ?_)
    · have hf := if_t c43 hf
      refine lv_iload_n hx hb dX2_markAll_128 rfl (lv_at hl 1 rfl) ?_
      have hf := Option.some.inj hf
      subst hf
      exact ret_i F hr hk Z dX2_markAll_129
    have hf := if_f c43 hf
    refine lv_aload_n hx hb dX2_markAll_46 rfl (lv_at hl 0 rfl) ?_
    refine grX2_9_55 F K Z dX2_markAll_47 ?_
    refine lv_iload_n hx hb dX2_markAll_50 rfl (lv_at hl 2 rfl) ?_
    obtain ⟨i51, hf⟩ := if_some hf
    refine al56 F K Z i51 dX2_markAll_51 ?_
    refine lv_iconst (v := 1) hx hb dX2_markAll_52 (by decide) ?_
    refine lv_icmp_ne (tgt := 67) hx hb dX2_markAll_53 (by decide) (fun c53 => ?_) (fun c53 => ?_)
    · have hf := if_f c53 hf
      refine lv_iconst (v := 0) hx hb dX2_markAll_67 (by decide) ?_
      exact b_X2_markAll_68 F hr hk K E hA ih _ _ _ _ hf _ _ _ Z hl
    have hf := if_t c53 hf
    refine lv_aload_n hx hb dX2_markAll_56 rfl (lv_at hl 0 rfl) ?_
    refine grX2_19_55 F K Z dX2_markAll_57 ?_
    refine lv_iload_n hx hb dX2_markAll_60 rfl (lv_at hl 2 rfl) ?_
    obtain ⟨q61, h61, hf⟩ := bind_some hf
    refine krX2_37_X1_kindOf_F0 F K E hA Z h61 ⟨Nat.le_of_ble_eq_true rfl, Nat.le_of_ble_eq_true rfl⟩ hl.1 (Nat.le_of_ble_eq_true rfl) dX2_markAll_61 (fun H locs Z => ?_)
    refine lv_goto (tgt := 68) hx hb dX2_markAll_64 (by decide) ?_
    exact b_X2_markAll_68 F hr hk K E hA ih _ _ _ _ hf _ _ _ Z hl
set_option maxRecDepth 100000 in
set_option maxHeartbeats 4000000 in
theorem b_X2_markAll_27 {p : Program} {l : Launch} {e : Env} {s : State} {m : MethodId} {args : Array Value} {below : List Frame} {meth : Method} {c : Code} {D : va_G} {A : Nat → Prop} {ad : Nat → Nat} {cy : Nat → ClassId} {ee : EE} {n : Nat} {res : (Int32 × StT)} (F : CallFix p m c cX2_markAll 5 s args (Cond.code yX2_markAll cX2_markAll 5 (some .int) :: Gw) yX2_markAll.cls) (hr : meth.sig.returnType = (some .int)) (hk : meth.locks = false) (K : va_K D vwCl (tyL cy) s) (E : EV ee A s s.heap) (hA : ∀ q, s.heap.size ≤ q → A q) : ∀ (st : StT) (x1 : Int32), f_X2_markAll_27 n st x1 = some res → ∀ (H : Heap) (locs : List Loc) (ls : Array Slot), ZG D (wC ad cy st) A s H locs → lv_has ls 5 [(0, .ref (ad 55)), (1, .int x1)] → W p l e { frames := 2, cells := 0, slots := 0, locals := 42 } s m args below meth c H locs 0 0 (MQ below (QC D (some (.int res.1)) (wC ad cy res.2) A) args s 0 0 A) (F0 m 27 ls []) := by
  have hx := F.1
  have hb := F.2.1
  intro st x1 hf H locs ls Z hl
  unfold f_X2_markAll_27 at hf
  refine lv_aload_n hx hb dX2_markAll_27 rfl (lv_at hl 0 rfl) ?_
  refine lv_iload_n hx hb dX2_markAll_28 rfl (lv_at hl 1 rfl) ?_
  obtain ⟨q29, h29, hf⟩ := bind_some hf
  refine krX2_27_X2_mark F K E hA Z h29 ⟨Nat.le_of_ble_eq_true rfl, Nat.le_of_ble_eq_true rfl⟩ hl.1 (Nat.le_of_ble_eq_true rfl) dX2_markAll_29 (fun H locs Z => ?_)
  refine lv_iconst (v := 0) hx hb dX2_markAll_32 (by decide) ?_
  refine lv_istore_n (lv' := [(2, .int (0 : Int32)), (0, .ref (ad 55)), (1, .int x1)]) hx hb dX2_markAll_33 rfl hl (by decide) rfl (fun ls hl => ?_)
  refine lv_iload_n hx hb dX2_markAll_34 rfl (lv_at hl 2 rfl) ?_
  refine lv_sipush (v := 1999) hx hb dX2_markAll_35 (by decide) ?_
  refine mth_min F (F.2.2.2.2 _ (List.mem_cons_of_mem _ wd369)) hl.1 (Nat.le_of_ble_eq_true rfl) (Nat.le_of_ble_eq_true rfl) dX2_markAll_38 ?_
  refine lv_istore_n (lv' := [(3, .int (if (1999 : Int32) < x1 then (1999 : Int32) else x1)), (2, .int (0 : Int32)), (0, .ref (ad 55)), (1, .int x1)]) hx hb dX2_markAll_41 rfl hl (by decide) rfl (fun ls hl => ?_)
  exact b_X2_markAll_42 F hr hk K E hA _ _ _ _ hf _ _ _ Z (lv_sub hl [2, 1, 0] rfl)
set_option maxRecDepth 100000 in
set_option maxHeartbeats 4000000 in
theorem b_X2_markAll_2 {p : Program} {l : Launch} {e : Env} {s : State} {m : MethodId} {args : Array Value} {below : List Frame} {meth : Method} {c : Code} {D : va_G} {A : Nat → Prop} {ad : Nat → Nat} {cy : Nat → ClassId} {ee : EE} {n : Nat} {res : (Int32 × StT)} (F : CallFix p m c cX2_markAll 5 s args (Cond.code yX2_markAll cX2_markAll 5 (some .int) :: Gw) yX2_markAll.cls) (hr : meth.sig.returnType = (some .int)) (hk : meth.locks = false) (K : va_K D vwCl (tyL cy) s) (E : EV ee A s s.heap) (hA : ∀ q, s.heap.size ≤ q → A q) : ∀ (k : Nat) (st : StT) (x1 : Int32) (x2 : Int32), f_X2_markAll_2 n k st x1 x2 = some res → ∀ (H : Heap) (locs : List Loc) (ls : Array Slot), ZG D (wC ad cy st) A s H locs → lv_has ls 5 [(0, .ref (ad 55)), (1, .int x1), (2, .int x2)] → W p l e { frames := 2, cells := 0, slots := 0, locals := 42 } s m args below meth c H locs 0 0 (MQ below (QC D (some (.int res.1)) (wC ad cy res.2) A) args s 0 0 A) (F0 m 2 ls []) := by
  have hx := F.1
  have hb := F.2.1
  intro k
  induction k with
  | zero =>
    intro st x1 x2 hf
    exact absurd hf (by simp [f_X2_markAll_2])
  | succ k ih =>
    intro st x1 x2 hf H locs ls Z hl
    rw [f_X2_markAll_2] at hf
    refine lv_iload_n hx hb dX2_markAll_2 rfl (lv_at hl 2 rfl) ?_
    refine lv_iload_n hx hb dX2_markAll_3 rfl (lv_at hl 1 rfl) ?_
    refine lv_icmp_gt (tgt := 27) hx hb dX2_markAll_4 (by decide) (fun c4 => ?_) (fun c4 => ?_)
    · have hf := if_t c4 hf
      exact b_X2_markAll_27 F hr hk K E hA _ _ hf _ _ _ Z (lv_sub hl [0, 1] rfl)
    have hf := if_f c4 hf
    refine lv_iload_n hx hb dX2_markAll_7 rfl (lv_at hl 2 rfl) ?_
    refine lv_sipush (v := 2000) hx hb dX2_markAll_8 (by decide) ?_
    refine lv_icmp_ge (tgt := 27) hx hb dX2_markAll_11 (by decide) (fun c11 => ?_) (fun c11 => ?_)
    · have hf := if_t c11 hf
      exact b_X2_markAll_27 F hr hk K E hA _ _ hf _ _ _ Z (lv_sub hl [0, 1] rfl)
    have hf := if_f c11 hf
    refine lv_aload_n hx hb dX2_markAll_14 rfl (lv_at hl 0 rfl) ?_
    refine grX2_9_55 F K Z dX2_markAll_15 ?_
    refine lv_iload_n hx hb dX2_markAll_18 rfl (lv_at hl 2 rfl) ?_
    refine lv_iconst (v := 0) hx hb dX2_markAll_19 (by decide) ?_
    obtain ⟨i20, hf⟩ := if_some hf
    refine as56 F K Z i20 dX2_markAll_20 (fun H locs Z => ?_)
    refine lv_iinc (v := (x2 + (1 : Int32))) (lv' := [(2, .int (x2 + (1 : Int32))), (0, .ref (ad 55)), (1, .int x1)]) hx hb dX2_markAll_21 hl (k := 2) rfl (congrArg (fun z => x2 + z) (by decide)) (by decide) rfl (fun ls hl => ?_)
    refine lv_goto (tgt := 2) hx hb dX2_markAll_24 (by decide) ?_
    exact ih _ _ _ hf _ _ _ Z (lv_sub hl [1, 2, 0] rfl)
set_option maxRecDepth 100000 in
set_option maxHeartbeats 4000000 in
theorem c_X2_markAll {l : Launch} {D : va_G} {ad : Nat → Nat} {cy : Nat → ClassId} {ee : EE} {n : Nat} {st : StT} {x1 : Int32} {res : (Int32 × StT)} (hf : f_X2_markAll n st x1 = some res) : CT l yX2_markAll cX2_markAll 5 (some .int) 2 42 D cy ee (wC ad cy st) (wC ad cy res.2) [.ref (ad 55), .int x1] (some (.int res.1)) := by
  refine CT.of (by decide +kernel) (Nat.le_of_ble_eq_true rfl) ?_
  intro p e s m args below meth c A F hr hk K E hA Z ls hl
  have hl : lv_has ls 5 [(0, .ref (ad 55)), (1, .int x1)] := hl
  have hx := F.1
  have hb := F.2.1
  unfold f_X2_markAll at hf
  refine lv_iconst (v := 0) hx hb dX2_markAll_0 (by decide) ?_
  refine lv_istore_n (lv' := [(2, .int (0 : Int32)), (0, .ref (ad 55)), (1, .int x1)]) hx hb dX2_markAll_1 rfl hl (by decide) rfl (fun ls hl => ?_)
  exact b_X2_markAll_2 F hr hk K E hA _ _ _ _ hf _ _ _ Z (lv_sub hl [1, 2, 0] rfl)
def f_J6_bitCount_0f7a4 (n : Nat) (st : StT) (x0 : Int32) : Option (Int32 × StT) := some (((((((((x0 - ((x0.toUInt32 >>> ((1 : Int32).toUInt32 &&& Int32.toUInt32 31)).toInt32 &&& (1431655765 : Int32))) &&& (858993459 : Int32)) + (((x0 - ((x0.toUInt32 >>> ((1 : Int32).toUInt32 &&& Int32.toUInt32 31)).toInt32 &&& (1431655765 : Int32))).toUInt32 >>> ((2 : Int32).toUInt32 &&& Int32.toUInt32 31)).toInt32 &&& (858993459 : Int32))) + ((((x0 - ((x0.toUInt32 >>> ((1 : Int32).toUInt32 &&& Int32.toUInt32 31)).toInt32 &&& (1431655765 : Int32))) &&& (858993459 : Int32)) + (((x0 - ((x0.toUInt32 >>> ((1 : Int32).toUInt32 &&& Int32.toUInt32 31)).toInt32 &&& (1431655765 : Int32))).toUInt32 >>> ((2 : Int32).toUInt32 &&& Int32.toUInt32 31)).toInt32 &&& (858993459 : Int32))).toUInt32 >>> ((4 : Int32).toUInt32 &&& Int32.toUInt32 31)).toInt32) &&& (252645135 : Int32)) + ((((((x0 - ((x0.toUInt32 >>> ((1 : Int32).toUInt32 &&& Int32.toUInt32 31)).toInt32 &&& (1431655765 : Int32))) &&& (858993459 : Int32)) + (((x0 - ((x0.toUInt32 >>> ((1 : Int32).toUInt32 &&& Int32.toUInt32 31)).toInt32 &&& (1431655765 : Int32))).toUInt32 >>> ((2 : Int32).toUInt32 &&& Int32.toUInt32 31)).toInt32 &&& (858993459 : Int32))) + ((((x0 - ((x0.toUInt32 >>> ((1 : Int32).toUInt32 &&& Int32.toUInt32 31)).toInt32 &&& (1431655765 : Int32))) &&& (858993459 : Int32)) + (((x0 - ((x0.toUInt32 >>> ((1 : Int32).toUInt32 &&& Int32.toUInt32 31)).toInt32 &&& (1431655765 : Int32))).toUInt32 >>> ((2 : Int32).toUInt32 &&& Int32.toUInt32 31)).toInt32 &&& (858993459 : Int32))).toUInt32 >>> ((4 : Int32).toUInt32 &&& Int32.toUInt32 31)).toInt32) &&& (252645135 : Int32)).toUInt32 >>> ((8 : Int32).toUInt32 &&& Int32.toUInt32 31)).toInt32) + (((((((x0 - ((x0.toUInt32 >>> ((1 : Int32).toUInt32 &&& Int32.toUInt32 31)).toInt32 &&& (1431655765 : Int32))) &&& (858993459 : Int32)) + (((x0 - ((x0.toUInt32 >>> ((1 : Int32).toUInt32 &&& Int32.toUInt32 31)).toInt32 &&& (1431655765 : Int32))).toUInt32 >>> ((2 : Int32).toUInt32 &&& Int32.toUInt32 31)).toInt32 &&& (858993459 : Int32))) + ((((x0 - ((x0.toUInt32 >>> ((1 : Int32).toUInt32 &&& Int32.toUInt32 31)).toInt32 &&& (1431655765 : Int32))) &&& (858993459 : Int32)) + (((x0 - ((x0.toUInt32 >>> ((1 : Int32).toUInt32 &&& Int32.toUInt32 31)).toInt32 &&& (1431655765 : Int32))).toUInt32 >>> ((2 : Int32).toUInt32 &&& Int32.toUInt32 31)).toInt32 &&& (858993459 : Int32))).toUInt32 >>> ((4 : Int32).toUInt32 &&& Int32.toUInt32 31)).toInt32) &&& (252645135 : Int32)) + ((((((x0 - ((x0.toUInt32 >>> ((1 : Int32).toUInt32 &&& Int32.toUInt32 31)).toInt32 &&& (1431655765 : Int32))) &&& (858993459 : Int32)) + (((x0 - ((x0.toUInt32 >>> ((1 : Int32).toUInt32 &&& Int32.toUInt32 31)).toInt32 &&& (1431655765 : Int32))).toUInt32 >>> ((2 : Int32).toUInt32 &&& Int32.toUInt32 31)).toInt32 &&& (858993459 : Int32))) + ((((x0 - ((x0.toUInt32 >>> ((1 : Int32).toUInt32 &&& Int32.toUInt32 31)).toInt32 &&& (1431655765 : Int32))) &&& (858993459 : Int32)) + (((x0 - ((x0.toUInt32 >>> ((1 : Int32).toUInt32 &&& Int32.toUInt32 31)).toInt32 &&& (1431655765 : Int32))).toUInt32 >>> ((2 : Int32).toUInt32 &&& Int32.toUInt32 31)).toInt32 &&& (858993459 : Int32))).toUInt32 >>> ((4 : Int32).toUInt32 &&& Int32.toUInt32 31)).toInt32) &&& (252645135 : Int32)).toUInt32 >>> ((8 : Int32).toUInt32 &&& Int32.toUInt32 31)).toInt32).toUInt32 >>> ((16 : Int32).toUInt32 &&& Int32.toUInt32 31)).toInt32) &&& (63 : Int32)), st)
theorem wd377 : Cond.constantLong RX2 65 (-1) ∈ Gw := gT5 (List.mem_of_getElem? (i := 168) rfl) rfl
theorem wd378 : Cond.constant RJ6 265 (1431655765) ∈ Gw := gT5 (List.mem_of_getElem? (i := 156) rfl) rfl
theorem wd379 : Cond.constant RJ6 266 (858993459) ∈ Gw := gT5 (List.mem_of_getElem? (i := 157) rfl) rfl
theorem wd380 : Cond.constant RJ6 267 (252645135) ∈ Gw := gT5 (List.mem_of_getElem? (i := 158) rfl) rfl
section
variable {p : Program} {l : Launch} {e : Env} {R : Room} {s : State} {m : MethodId} {args : Array Value} {below : List Frame} {meth : Method} {c : Code} {H : Heap} {locs : List Loc} {Q : State → Prop}
variable {cc : ByteArray} {nL pc : Nat} {ls : Array Slot} {rest : List Value} {D : va_G} {A : Nat → Prop} {cw : Cond} {ad : Nat → Nat} {cy : Nat → ClassId} {ee : EE} {st : StT} {own : String}
theorem as57 {i : Int32} {v : Int64} (F : CallFix p m c cc nL s args (cw :: Gw) own) (K : va_K D vwCl (tyL cy) s) (Z : ZG D (wC ad cy st) A s H locs) (hi : inB i 2000 = true) (hd : decode cc pc = .ok (.lastore, 1)) (kk : ∀ (H1 : Heap) (locs1 : List Loc), ZG D (wC ad cy (uM st 2 i v)) A s H1 locs1 → W p l e R s m args below meth c H1 locs1 0 0 Q (F0 m (pc + 1) ls rest)) : W p l e R s m args below meth c H locs 0 0 Q (F0 m pc ls (.long v :: .int i :: .ref (ad 57) :: rest)) :=
  va_last F.1 F.2.1 K Z.1 Z.2.1 Z.2.2 57 2 rfl rfl (inB_vp hi) hd (fun H1 locs1 hP hD hS => kk H1 locs1 ⟨hP, hD, hS⟩)
end
set_option maxRecDepth 100000 in
set_option maxHeartbeats 4000000 in
theorem c_J6_bitCount_0f7a4 {l : Launch} {D : va_G} {ad : Nat → Nat} {cy : Nat → ClassId} {ee : EE} {n : Nat} {st : StT} {x0 : Int32} {res : (Int32 × StT)} (hf : f_J6_bitCount_0f7a4 n st x0 = some res) : CT l yJ6_bitCount_0f7a4 cJ6_bitCount_0f7a4 1 (some .int) 0 0 D cy ee (wC ad cy st) (wC ad cy res.2) [.int x0] (some (.int res.1)) := by
  refine CT.of (by decide +kernel) (Nat.le_of_ble_eq_true rfl) ?_
  intro p e s m args below meth c A F hr hk K E hA Z ls hl
  have hl : lv_has ls 1 [(0, .int x0)] := hl
  have hx := F.1
  have hb := F.2.1
  unfold f_J6_bitCount_0f7a4 at hf
  refine lv_iload_n hx hb dJ6_bitCount_0f7a4_0 rfl (lv_at hl 0 rfl) ?_
  refine lv_iload_n hx hb dJ6_bitCount_0f7a4_1 rfl (lv_at hl 0 rfl) ?_
  refine lv_iconst (v := 1) hx hb dJ6_bitCount_0f7a4_2 (by decide) ?_
  refine lv_iushr hx hb dJ6_bitCount_0f7a4_3 rfl ?_
  refine lv_ldcw (v := 1431655765) hx hb F.2.2.2.1 (F.2.2.2.2 _ (List.mem_cons_of_mem _ wd378)) dJ6_bitCount_0f7a4_4 ?_
  refine lv_iand hx hb dJ6_bitCount_0f7a4_7 ?_
  refine lv_isub hx hb dJ6_bitCount_0f7a4_8 ?_
  refine lv_istore_n (lv' := [(0, .int (x0 - ((x0.toUInt32 >>> ((1 : Int32).toUInt32 &&& Int32.toUInt32 31)).toInt32 &&& (1431655765 : Int32))))]) hx hb dJ6_bitCount_0f7a4_9 rfl hl (by decide) rfl (fun ls hl => ?_)
  refine lv_iload_n hx hb dJ6_bitCount_0f7a4_10 rfl (lv_at hl 0 rfl) ?_
  refine lv_ldcw (v := 858993459) hx hb F.2.2.2.1 (F.2.2.2.2 _ (List.mem_cons_of_mem _ wd379)) dJ6_bitCount_0f7a4_11 ?_
  refine lv_iand hx hb dJ6_bitCount_0f7a4_14 ?_
  refine lv_iload_n hx hb dJ6_bitCount_0f7a4_15 rfl (lv_at hl 0 rfl) ?_
  refine lv_iconst (v := 2) hx hb dJ6_bitCount_0f7a4_16 (by decide) ?_
  refine lv_iushr hx hb dJ6_bitCount_0f7a4_17 rfl ?_
  refine lv_ldcw (v := 858993459) hx hb F.2.2.2.1 (F.2.2.2.2 _ (List.mem_cons_of_mem _ wd379)) dJ6_bitCount_0f7a4_18 ?_
  refine lv_iand hx hb dJ6_bitCount_0f7a4_21 ?_
  refine lv_iadd hx hb dJ6_bitCount_0f7a4_22 ?_
  refine lv_istore_n (lv' := [(0, .int (((x0 - ((x0.toUInt32 >>> ((1 : Int32).toUInt32 &&& Int32.toUInt32 31)).toInt32 &&& (1431655765 : Int32))) &&& (858993459 : Int32)) + (((x0 - ((x0.toUInt32 >>> ((1 : Int32).toUInt32 &&& Int32.toUInt32 31)).toInt32 &&& (1431655765 : Int32))).toUInt32 >>> ((2 : Int32).toUInt32 &&& Int32.toUInt32 31)).toInt32 &&& (858993459 : Int32))))]) hx hb dJ6_bitCount_0f7a4_23 rfl hl (by decide) rfl (fun ls hl => ?_)
  refine lv_iload_n hx hb dJ6_bitCount_0f7a4_24 rfl (lv_at hl 0 rfl) ?_
  refine lv_iload_n hx hb dJ6_bitCount_0f7a4_25 rfl (lv_at hl 0 rfl) ?_
  refine lv_iconst (v := 4) hx hb dJ6_bitCount_0f7a4_26 (by decide) ?_
  refine lv_iushr hx hb dJ6_bitCount_0f7a4_27 rfl ?_
  refine lv_iadd hx hb dJ6_bitCount_0f7a4_28 ?_
  refine lv_ldcw (v := 252645135) hx hb F.2.2.2.1 (F.2.2.2.2 _ (List.mem_cons_of_mem _ wd380)) dJ6_bitCount_0f7a4_29 ?_
  refine lv_iand hx hb dJ6_bitCount_0f7a4_32 ?_
  refine lv_istore_n (lv' := [(0, .int (((((x0 - ((x0.toUInt32 >>> ((1 : Int32).toUInt32 &&& Int32.toUInt32 31)).toInt32 &&& (1431655765 : Int32))) &&& (858993459 : Int32)) + (((x0 - ((x0.toUInt32 >>> ((1 : Int32).toUInt32 &&& Int32.toUInt32 31)).toInt32 &&& (1431655765 : Int32))).toUInt32 >>> ((2 : Int32).toUInt32 &&& Int32.toUInt32 31)).toInt32 &&& (858993459 : Int32))) + ((((x0 - ((x0.toUInt32 >>> ((1 : Int32).toUInt32 &&& Int32.toUInt32 31)).toInt32 &&& (1431655765 : Int32))) &&& (858993459 : Int32)) + (((x0 - ((x0.toUInt32 >>> ((1 : Int32).toUInt32 &&& Int32.toUInt32 31)).toInt32 &&& (1431655765 : Int32))).toUInt32 >>> ((2 : Int32).toUInt32 &&& Int32.toUInt32 31)).toInt32 &&& (858993459 : Int32))).toUInt32 >>> ((4 : Int32).toUInt32 &&& Int32.toUInt32 31)).toInt32) &&& (252645135 : Int32)))]) hx hb dJ6_bitCount_0f7a4_33 rfl hl (by decide) rfl (fun ls hl => ?_)
  refine lv_iload_n hx hb dJ6_bitCount_0f7a4_34 rfl (lv_at hl 0 rfl) ?_
  refine lv_iload_n hx hb dJ6_bitCount_0f7a4_35 rfl (lv_at hl 0 rfl) ?_
  refine lv_bipush (v := 8) hx hb dJ6_bitCount_0f7a4_36 (by decide) ?_
  refine lv_iushr hx hb dJ6_bitCount_0f7a4_38 rfl ?_
  refine lv_iadd hx hb dJ6_bitCount_0f7a4_39 ?_
  refine lv_istore_n (lv' := [(0, .int ((((((x0 - ((x0.toUInt32 >>> ((1 : Int32).toUInt32 &&& Int32.toUInt32 31)).toInt32 &&& (1431655765 : Int32))) &&& (858993459 : Int32)) + (((x0 - ((x0.toUInt32 >>> ((1 : Int32).toUInt32 &&& Int32.toUInt32 31)).toInt32 &&& (1431655765 : Int32))).toUInt32 >>> ((2 : Int32).toUInt32 &&& Int32.toUInt32 31)).toInt32 &&& (858993459 : Int32))) + ((((x0 - ((x0.toUInt32 >>> ((1 : Int32).toUInt32 &&& Int32.toUInt32 31)).toInt32 &&& (1431655765 : Int32))) &&& (858993459 : Int32)) + (((x0 - ((x0.toUInt32 >>> ((1 : Int32).toUInt32 &&& Int32.toUInt32 31)).toInt32 &&& (1431655765 : Int32))).toUInt32 >>> ((2 : Int32).toUInt32 &&& Int32.toUInt32 31)).toInt32 &&& (858993459 : Int32))).toUInt32 >>> ((4 : Int32).toUInt32 &&& Int32.toUInt32 31)).toInt32) &&& (252645135 : Int32)) + ((((((x0 - ((x0.toUInt32 >>> ((1 : Int32).toUInt32 &&& Int32.toUInt32 31)).toInt32 &&& (1431655765 : Int32))) &&& (858993459 : Int32)) + (((x0 - ((x0.toUInt32 >>> ((1 : Int32).toUInt32 &&& Int32.toUInt32 31)).toInt32 &&& (1431655765 : Int32))).toUInt32 >>> ((2 : Int32).toUInt32 &&& Int32.toUInt32 31)).toInt32 &&& (858993459 : Int32))) + ((((x0 - ((x0.toUInt32 >>> ((1 : Int32).toUInt32 &&& Int32.toUInt32 31)).toInt32 &&& (1431655765 : Int32))) &&& (858993459 : Int32)) + (((x0 - ((x0.toUInt32 >>> ((1 : Int32).toUInt32 &&& Int32.toUInt32 31)).toInt32 &&& (1431655765 : Int32))).toUInt32 >>> ((2 : Int32).toUInt32 &&& Int32.toUInt32 31)).toInt32 &&& (858993459 : Int32))).toUInt32 >>> ((4 : Int32).toUInt32 &&& Int32.toUInt32 31)).toInt32) &&& (252645135 : Int32)).toUInt32 >>> ((8 : Int32).toUInt32 &&& Int32.toUInt32 31)).toInt32))]) hx hb dJ6_bitCount_0f7a4_40 rfl hl (by decide) rfl (fun ls hl => ?_)
  refine lv_iload_n hx hb dJ6_bitCount_0f7a4_41 rfl (lv_at hl 0 rfl) ?_
  refine lv_iload_n hx hb dJ6_bitCount_0f7a4_42 rfl (lv_at hl 0 rfl) ?_
  refine lv_bipush (v := 16) hx hb dJ6_bitCount_0f7a4_43 (by decide) ?_
  refine lv_iushr hx hb dJ6_bitCount_0f7a4_45 rfl ?_
  refine lv_iadd hx hb dJ6_bitCount_0f7a4_46 ?_
  refine lv_istore_n (lv' := [(0, .int (((((((x0 - ((x0.toUInt32 >>> ((1 : Int32).toUInt32 &&& Int32.toUInt32 31)).toInt32 &&& (1431655765 : Int32))) &&& (858993459 : Int32)) + (((x0 - ((x0.toUInt32 >>> ((1 : Int32).toUInt32 &&& Int32.toUInt32 31)).toInt32 &&& (1431655765 : Int32))).toUInt32 >>> ((2 : Int32).toUInt32 &&& Int32.toUInt32 31)).toInt32 &&& (858993459 : Int32))) + ((((x0 - ((x0.toUInt32 >>> ((1 : Int32).toUInt32 &&& Int32.toUInt32 31)).toInt32 &&& (1431655765 : Int32))) &&& (858993459 : Int32)) + (((x0 - ((x0.toUInt32 >>> ((1 : Int32).toUInt32 &&& Int32.toUInt32 31)).toInt32 &&& (1431655765 : Int32))).toUInt32 >>> ((2 : Int32).toUInt32 &&& Int32.toUInt32 31)).toInt32 &&& (858993459 : Int32))).toUInt32 >>> ((4 : Int32).toUInt32 &&& Int32.toUInt32 31)).toInt32) &&& (252645135 : Int32)) + ((((((x0 - ((x0.toUInt32 >>> ((1 : Int32).toUInt32 &&& Int32.toUInt32 31)).toInt32 &&& (1431655765 : Int32))) &&& (858993459 : Int32)) + (((x0 - ((x0.toUInt32 >>> ((1 : Int32).toUInt32 &&& Int32.toUInt32 31)).toInt32 &&& (1431655765 : Int32))).toUInt32 >>> ((2 : Int32).toUInt32 &&& Int32.toUInt32 31)).toInt32 &&& (858993459 : Int32))) + ((((x0 - ((x0.toUInt32 >>> ((1 : Int32).toUInt32 &&& Int32.toUInt32 31)).toInt32 &&& (1431655765 : Int32))) &&& (858993459 : Int32)) + (((x0 - ((x0.toUInt32 >>> ((1 : Int32).toUInt32 &&& Int32.toUInt32 31)).toInt32 &&& (1431655765 : Int32))).toUInt32 >>> ((2 : Int32).toUInt32 &&& Int32.toUInt32 31)).toInt32 &&& (858993459 : Int32))).toUInt32 >>> ((4 : Int32).toUInt32 &&& Int32.toUInt32 31)).toInt32) &&& (252645135 : Int32)).toUInt32 >>> ((8 : Int32).toUInt32 &&& Int32.toUInt32 31)).toInt32) + (((((((x0 - ((x0.toUInt32 >>> ((1 : Int32).toUInt32 &&& Int32.toUInt32 31)).toInt32 &&& (1431655765 : Int32))) &&& (858993459 : Int32)) + (((x0 - ((x0.toUInt32 >>> ((1 : Int32).toUInt32 &&& Int32.toUInt32 31)).toInt32 &&& (1431655765 : Int32))).toUInt32 >>> ((2 : Int32).toUInt32 &&& Int32.toUInt32 31)).toInt32 &&& (858993459 : Int32))) + ((((x0 - ((x0.toUInt32 >>> ((1 : Int32).toUInt32 &&& Int32.toUInt32 31)).toInt32 &&& (1431655765 : Int32))) &&& (858993459 : Int32)) + (((x0 - ((x0.toUInt32 >>> ((1 : Int32).toUInt32 &&& Int32.toUInt32 31)).toInt32 &&& (1431655765 : Int32))).toUInt32 >>> ((2 : Int32).toUInt32 &&& Int32.toUInt32 31)).toInt32 &&& (858993459 : Int32))).toUInt32 >>> ((4 : Int32).toUInt32 &&& Int32.toUInt32 31)).toInt32) &&& (252645135 : Int32)) + ((((((x0 - ((x0.toUInt32 >>> ((1 : Int32).toUInt32 &&& Int32.toUInt32 31)).toInt32 &&& (1431655765 : Int32))) &&& (858993459 : Int32)) + (((x0 - ((x0.toUInt32 >>> ((1 : Int32).toUInt32 &&& Int32.toUInt32 31)).toInt32 &&& (1431655765 : Int32))).toUInt32 >>> ((2 : Int32).toUInt32 &&& Int32.toUInt32 31)).toInt32 &&& (858993459 : Int32))) + ((((x0 - ((x0.toUInt32 >>> ((1 : Int32).toUInt32 &&& Int32.toUInt32 31)).toInt32 &&& (1431655765 : Int32))) &&& (858993459 : Int32)) + (((x0 - ((x0.toUInt32 >>> ((1 : Int32).toUInt32 &&& Int32.toUInt32 31)).toInt32 &&& (1431655765 : Int32))).toUInt32 >>> ((2 : Int32).toUInt32 &&& Int32.toUInt32 31)).toInt32 &&& (858993459 : Int32))).toUInt32 >>> ((4 : Int32).toUInt32 &&& Int32.toUInt32 31)).toInt32) &&& (252645135 : Int32)).toUInt32 >>> ((8 : Int32).toUInt32 &&& Int32.toUInt32 31)).toInt32).toUInt32 >>> ((16 : Int32).toUInt32 &&& Int32.toUInt32 31)).toInt32))]) hx hb dJ6_bitCount_0f7a4_47 rfl hl (by decide) rfl (fun ls hl => ?_)
  refine lv_iload_n hx hb dJ6_bitCount_0f7a4_48 rfl (lv_at hl 0 rfl) ?_
  refine lv_bipush (v := 63) hx hb dJ6_bitCount_0f7a4_49 (by decide) ?_
  refine lv_iand hx hb dJ6_bitCount_0f7a4_51 ?_
  have hf := Option.some.inj hf
  subst hf
  exact ret_i F hr hk Z dJ6_bitCount_0f7a4_52
def f_X2_simpleValue (n : Nat) (st : StT) (x1 : Int32) : Option (Int64 × StT) := (f_X1_firstOf_F0 n st x1).bind fun q6 => ((f_X2_valueOf n q6.2 q6.1).bind fun q9 => ((f_X1_secondOf_F0 n q9.2 x1).bind fun q19 => ((f_X2_valueOf n q19.2 q19.1).bind fun q22 => ((f_X1_kindOf_F0 n q22.2 x1).bind fun q32 => (if q32.1 = 1 then (some ((-1 : Int64), q32.2)) else (if q32.1 = 3 then (some ((q9.1 &&& q22.1), q32.2)) else (if q32.1 = 4 then (some ((q9.1 ||| q22.1), q32.2)) else (some ((0 : Int64), q32.2)))))))))
theorem wd381 : Cond.methodLink RX2 61 yX2_valueOf ∈ Gw := gT5 (List.mem_of_getElem? (i := 173) rfl) rfl
theorem wd382 : Cond.code yX2_valueOf prog_4_method_4_code 2 (some .long) ∈ Gw := gT5 (List.mem_of_getElem? (i := 176) rfl) rfl
theorem wd383 : Cond.instanceMethod yX2_valueOf ∈ Gw := gT5 (List.mem_of_getElem? (i := 175) rfl) rfl
theorem wd384 : Cond.selects RX2 yX2_valueOf yX2_valueOf ∈ Gw := gP5 (q := (yX2_valueOf, 3)) (List.mem_of_getElem? (i := 0) rfl)
section
variable {p : Program} {l : Launch} {e : Env} {R : Room} {s : State} {m : MethodId} {args : Array Value} {below : List Frame} {meth : Method} {c : Code} {H : Heap} {locs : List Loc} {Q : State → Prop}
variable {cc : ByteArray} {nL pc : Nat} {ls : Array Slot} {rest : List Value} {D : va_G} {A : Nat → Prop} {cw : Cond} {ad : Nat → Nat} {cy : Nat → ClassId} {ee : EE} {st : StT} {own : String}
theorem krX2_61_X2_valueOf {n : Nat} {a0 : Int32} {q : (Int64 × StT)} (F : CallFix p m c cc nL s args (cw :: Gw) RX2) (K : va_K D vwCl (tyL cy) s) (E : EV ee A s s.heap) (hA : ∀ q, s.heap.size ≤ q → A q) (Z : ZG D (wC ad cy st) A s H locs) (hf : f_X2_valueOf n st a0 = some q) (hR : 2 ≤ R.frames ∧ 41 ≤ R.locals) (hl : ls.size = nL) (hst : (rest.map fun v => v.category).sum ≤ 8) (hd : decode cc pc = .ok (.invokevirtual 61, 3)) (kk : ∀ (H1 : Heap) (locs1 : List Loc), ZG D (wC ad cy q.2) A s H1 locs1 → W p l e R s m args below meth c H1 locs1 0 0 Q (F0 m (pc + 3) ls (.long q.1 :: rest))) : W p l e R s m args below meth c H locs 0 0 Q (F0 m pc ls (.int a0 :: .ref (ad 55) :: rest)) :=
  call_V (q := (RX2, TX2, 3)) (n := 1) (As := [.int a0]) (rv := some (.long q.1)) 55 2 F K E hA Z (c_X2_valueOf (l := l) (D := D) (ad := ad) (cy := cy) (ee := ee) hf) ⟨wd382, wd381, wd383, wd384, wd366⟩ (by decide +kernel) rfl rfl hR rfl hl hst hd kk
end
set_option maxRecDepth 100000 in
set_option maxHeartbeats 4000000 in
theorem c_X2_simpleValue {l : Launch} {D : va_G} {ad : Nat → Nat} {cy : Nat → ClassId} {ee : EE} {n : Nat} {st : StT} {x1 : Int32} {res : (Int64 × StT)} (hf : f_X2_simpleValue n st x1 = some res) : CT l yX2_simpleValue cX2_simpleValue 6 (some .long) 2 42 D cy ee (wC ad cy st) (wC ad cy res.2) [.ref (ad 55), .int x1] (some (.long res.1)) := by
  refine CT.of (by decide +kernel) (Nat.le_of_ble_eq_true rfl) ?_
  intro p e s m args below meth c A F hr hk K E hA Z ls hl
  have hl : lv_has ls 6 [(0, .ref (ad 55)), (1, .int x1)] := hl
  have hx := F.1
  have hb := F.2.1
  unfold f_X2_simpleValue at hf
  refine lv_aload_n hx hb dX2_simpleValue_0 rfl (lv_at hl 0 rfl) ?_
  refine lv_aload_n hx hb dX2_simpleValue_1 rfl (lv_at hl 0 rfl) ?_
  refine grX2_19_55 F K Z dX2_simpleValue_2 ?_
  refine lv_iload_n hx hb dX2_simpleValue_5 rfl (lv_at hl 1 rfl) ?_
  obtain ⟨q6, h6, hf⟩ := bind_some hf
  refine krX2_43_X1_firstOf_F0 F K E hA Z h6 ⟨Nat.le_of_ble_eq_true rfl, Nat.le_of_ble_eq_true rfl⟩ hl.1 (Nat.le_of_ble_eq_true rfl) dX2_simpleValue_6 (fun H locs Z => ?_)
  obtain ⟨q9, h9, hf⟩ := bind_some hf
  refine krX2_61_X2_valueOf F K E hA Z h9 ⟨Nat.le_of_ble_eq_true rfl, Nat.le_of_ble_eq_true rfl⟩ hl.1 (Nat.le_of_ble_eq_true rfl) dX2_simpleValue_9 (fun H locs Z => ?_)
  refine lv_lstore_n (lv' := [(2, .long q9.1), (0, .ref (ad 55)), (1, .int x1)]) hx hb dX2_simpleValue_12 rfl hl (by decide) rfl (fun ls hl => ?_)
  refine lv_aload_n hx hb dX2_simpleValue_13 rfl (lv_at hl 1 rfl) ?_
  refine lv_aload_n hx hb dX2_simpleValue_14 rfl (lv_at hl 1 rfl) ?_
  refine grX2_19_55 F K Z dX2_simpleValue_15 ?_
  refine lv_iload_n hx hb dX2_simpleValue_18 rfl (lv_at hl 2 rfl) ?_
  obtain ⟨q19, h19, hf⟩ := bind_some hf
  refine krX2_46_X1_secondOf_F0 F K E hA Z h19 ⟨Nat.le_of_ble_eq_true rfl, Nat.le_of_ble_eq_true rfl⟩ hl.1 (Nat.le_of_ble_eq_true rfl) dX2_simpleValue_19 (fun H locs Z => ?_)
  obtain ⟨q22, h22, hf⟩ := bind_some hf
  refine krX2_61_X2_valueOf F K E hA Z h22 ⟨Nat.le_of_ble_eq_true rfl, Nat.le_of_ble_eq_true rfl⟩ hl.1 (Nat.le_of_ble_eq_true rfl) dX2_simpleValue_22 (fun H locs Z => ?_)
  refine lv_lstore (lv' := [(4, .long q22.1), (2, .long q9.1), (0, .ref (ad 55)), (1, .int x1)]) hx hb dX2_simpleValue_25 hl (by decide) rfl (fun ls hl => ?_)
  refine lv_aload_n hx hb dX2_simpleValue_27 rfl (lv_at hl 2 rfl) ?_
  refine grX2_19_55 F K Z dX2_simpleValue_28 ?_
  refine lv_iload_n hx hb dX2_simpleValue_31 rfl (lv_at hl 3 rfl) ?_
  obtain ⟨q32, h32, hf⟩ := bind_some hf
  refine krX2_37_X1_kindOf_F0 F K E hA Z h32 ⟨Nat.le_of_ble_eq_true rfl, Nat.le_of_ble_eq_true rfl⟩ hl.1 (Nat.le_of_ble_eq_true rfl) dX2_simpleValue_32 (fun H locs Z => ?_)
  by_cases c35_1 : q32.1 = 1
  · have hf := if_t c35_1 hf
    refine lv_tableIn (tgt := 64) hx hb dX2_simpleValue_35 (by rw [c35_1] <;> decide) (by rw [c35_1] <;> decide) (by rw [c35_1] <;> rfl) (by decide) ?_
    refine lv_ldc2 (v := -1) hx hb F.2.2.2.1 (F.2.2.2.2 _ (List.mem_cons_of_mem _ wd377)) dX2_simpleValue_64 ?_
    have hf := Option.some.inj hf
    subst hf
    exact ret_l F hr hk Z dX2_simpleValue_67
  have hf := if_f c35_1 hf
  by_cases c35_3 : q32.1 = 3
  · have hf := if_t c35_3 hf
    refine lv_tableIn (tgt := 68) hx hb dX2_simpleValue_35 (by rw [c35_3] <;> decide) (by rw [c35_3] <;> decide) (by rw [c35_3] <;> rfl) (by decide) ?_
    refine lv_lload_n hx hb dX2_simpleValue_68 rfl (lv_at hl 1 rfl) ?_
    refine lv_lload hx hb dX2_simpleValue_69 (lv_at hl 0 rfl) ?_
    refine lv_land hx hb dX2_simpleValue_71 ?_
    have hf := Option.some.inj hf
    subst hf
    exact ret_l F hr hk Z dX2_simpleValue_72
  have hf := if_f c35_3 hf
  by_cases c35_4 : q32.1 = 4
  · have hf := if_t c35_4 hf
    refine lv_tableIn (tgt := 73) hx hb dX2_simpleValue_35 (by rw [c35_4] <;> decide) (by rw [c35_4] <;> decide) (by rw [c35_4] <;> rfl) (by decide) ?_
    refine lv_lload_n hx hb dX2_simpleValue_73 rfl (lv_at hl 1 rfl) ?_
    refine lv_lload hx hb dX2_simpleValue_74 (lv_at hl 0 rfl) ?_
    refine lv_lor hx hb dX2_simpleValue_76 ?_
    have hf := Option.some.inj hf
    subst hf
    exact ret_l F hr hk Z dX2_simpleValue_77
  have hf := if_f c35_4 hf
  refine sw_tab (tgt := 78) hx hb dX2_simpleValue_35 (sw_any (fun j h1 h2 hj => ?_)) (by decide) ?_
  · rcases (show j = 1 ∨ j = 2 ∨ j = 3 ∨ j = 4 by omega) with rfl | rfl | rfl | rfl
    · exact absurd hj (lv_neT c35_1 (by decide))
    · rfl
    · exact absurd hj (lv_neT c35_3 (by decide))
    · exact absurd hj (lv_neT c35_4 (by decide))
  refine lv_lconst (v := 0) hx hb dX2_simpleValue_78 (by decide) ?_
  have hf := Option.some.inj hf
  subst hf
  exact ret_l F hr hk Z dX2_simpleValue_79
def f_X2_assigned_29 (n : Nat) (st : StT) (x2 : Int32) (x3 : Int32) : Option (Int64 × StT) := if ((x2.toUInt32 >>> ((x3 - (6 : Int32)).toUInt32 &&& Int32.toUInt32 31)).toInt32 &&& (1 : Int32)) = (1 : Int32) then (some ((-1 : Int64), st)) else (some ((0 : Int64), st))
def f_X2_assigned (n : Nat) (st : StT) (x0 : Int32) (x1 : Int32) (x2 : Int32) : Option (Int64 × StT) := (f_J6_bitCount_0f7a4 n st (x1 &&& (((1 : Int32) <<< (x0 &&& 31)) - (1 : Int32)))).bind fun q7 => (if q7.1 < 0 then (f_X2_assigned_29 n q7.2 x2 q7.1) else (if (6 : Int32) ≤ q7.1 then (f_X2_assigned_29 n q7.2 x2 q7.1) else (if inB q7.1 6 = true then (some ((pats.getD (q7.1).toNatClampNeg 0), q7.2)) else none)))
theorem wd385 : Cond.fieldLink RX2 76 "WorldProver$Parts" "PATTERNS" "[J" ∈ Gw := gT5 (List.mem_of_getElem? (i := 166) rfl) rfl
theorem wd386 : Cond.methodLink RX2 52 yJ6_bitCount_0f7a4 ∈ Gw := gT5 (List.mem_of_getElem? (i := 153) rfl) rfl
theorem wd387 : Cond.code yJ6_bitCount_0f7a4 prog_16_method_49_code 1 (some .int) ∈ Gw := gT5 (List.mem_of_getElem? (i := 155) rfl) rfl
theorem wd388 : Cond.static yJ6_bitCount_0f7a4 ∈ Gw := gT5 (List.mem_of_getElem? (i := 154) rfl) rfl
theorem wd389 : Cond.initialized RJ6 ∈ Gw := gT1 (List.mem_of_getElem? (i := 20) rfl) rfl
section
variable {p : Program} {l : Launch} {e : Env} {R : Room} {s : State} {m : MethodId} {args : Array Value} {below : List Frame} {meth : Method} {c : Code} {H : Heap} {locs : List Loc} {Q : State → Prop}
variable {cc : ByteArray} {nL pc : Nat} {ls : Array Slot} {rest : List Value} {D : va_G} {A : Nat → Prop} {cw : Cond} {ad : Nat → Nat} {cy : Nat → ClassId} {ee : EE} {st : StT} {own : String}
theorem krX2_52_J6_bitCount_0f7a4 {n : Nat} {a0 : Int32} {q : (Int32 × StT)} (F : CallFix p m c cc nL s args (cw :: Gw) RX2) (K : va_K D vwCl (tyL cy) s) (E : EV ee A s s.heap) (hA : ∀ q, s.heap.size ≤ q → A q) (Z : ZG D (wC ad cy st) A s H locs) (hf : f_J6_bitCount_0f7a4 n st a0 = some q) (hR : 1 ≤ R.frames ∧ 20 ≤ R.locals) (hl : ls.size = nL) (hst : (rest.map fun v => v.category).sum ≤ 8) (hd : decode cc pc = .ok (.invokestatic 52, 3)) (kk : ∀ (H1 : Heap) (locs1 : List Loc), ZG D (wC ad cy q.2) A s H1 locs1 → W p l e R s m args below meth c H1 locs1 0 0 Q (F0 m (pc + 3) ls (.int q.1 :: rest))) : W p l e R s m args below meth c H locs 0 0 Q (F0 m pc ls (.int a0 :: rest)) :=
  call_S (n := 1) (As := [.int a0]) (rv := some (.int q.1)) F K E hA Z (c_J6_bitCount_0f7a4 (l := l) (D := D) (ad := ad) (cy := cy) (ee := ee) hf) ⟨wd387, wd386, wd388, wd389⟩ (by decide +kernel) hR rfl hl hst hd kk
end
set_option maxRecDepth 100000 in
set_option maxHeartbeats 4000000 in
theorem b_X2_assigned_29 {p : Program} {l : Launch} {e : Env} {s : State} {m : MethodId} {args : Array Value} {below : List Frame} {meth : Method} {c : Code} {D : va_G} {A : Nat → Prop} {ad : Nat → Nat} {cy : Nat → ClassId} {ee : EE} {n : Nat} {res : (Int64 × StT)} (F : CallFix p m c cX2_assigned 4 s args (Cond.code yX2_assigned cX2_assigned 4 (some .long) :: Gw) yX2_assigned.cls) (hr : meth.sig.returnType = (some .long)) (hk : meth.locks = false) (K : va_K D vwCl (tyL cy) s) (E : EV ee A s s.heap) (hA : ∀ q, s.heap.size ≤ q → A q) : ∀ (st : StT) (x2 : Int32) (x3 : Int32), f_X2_assigned_29 n st x2 x3 = some res → ∀ (H : Heap) (locs : List Loc) (ls : Array Slot), ZG D (wC ad cy st) A s H locs → lv_has ls 4 [(2, .int x2), (3, .int x3)] → W p l e { frames := 1, cells := 0, slots := 0, locals := 20 } s m args below meth c H locs 0 0 (MQ below (QC D (some (.long res.1)) (wC ad cy res.2) A) args s 0 0 A) (F0 m 29 ls []) := by
  have hx := F.1
  have hb := F.2.1
  intro st x2 x3 hf H locs ls Z hl
  unfold f_X2_assigned_29 at hf
  refine lv_iload_n hx hb dX2_assigned_29 rfl (lv_at hl 0 rfl) ?_
  refine lv_iload_n hx hb dX2_assigned_30 rfl (lv_at hl 1 rfl) ?_
  refine va_gets hx hb E.2.2.2.2.2.1 Z.2.2 F.2.2.2.1 (F.2.2.2.2 _ (List.mem_cons_of_mem _ wd385)) (fun _ h => h) dX2_assigned_31 ?_
  refine va_tlen hx hb E.2.2.2.2.2.2 Z.2.2 (v := 6) (by decide) dX2_assigned_34 ?_
  refine lv_isub hx hb dX2_assigned_35 ?_
  refine lv_iushr hx hb dX2_assigned_36 rfl ?_
  refine lv_iconst (v := 1) hx hb dX2_assigned_37 (by decide) ?_
  refine lv_iand hx hb dX2_assigned_38 ?_
  refine lv_iconst (v := 1) hx hb dX2_assigned_39 (by decide) ?_
  refine lv_icmp_ne (tgt := 49) hx hb dX2_assigned_40 (by decide) (fun c40 => ?_) (fun c40 => ?_)
  · have hf := if_f c40 hf
    refine lv_lconst (v := 0) hx hb dX2_assigned_49 (by decide) ?_
    have hf := Option.some.inj hf
    subst hf
    exact ret_l F hr hk Z dX2_assigned_50
  have hf := if_t c40 hf
  refine lv_ldc2 (v := -1) hx hb F.2.2.2.1 (F.2.2.2.2 _ (List.mem_cons_of_mem _ wd377)) dX2_assigned_43 ?_
  refine lv_goto (tgt := 50) hx hb dX2_assigned_46 (by decide) ?_
  have hf := Option.some.inj hf
  subst hf
  exact ret_l F hr hk Z dX2_assigned_50
set_option maxRecDepth 100000 in
set_option maxHeartbeats 4000000 in
theorem c_X2_assigned {l : Launch} {D : va_G} {ad : Nat → Nat} {cy : Nat → ClassId} {ee : EE} {n : Nat} {st : StT} {x0 : Int32} {x1 : Int32} {x2 : Int32} {res : (Int64 × StT)} (hf : f_X2_assigned n st x0 x1 x2 = some res) : CT l yX2_assigned cX2_assigned 4 (some .long) 1 20 D cy ee (wC ad cy st) (wC ad cy res.2) [.int x0, .int x1, .int x2] (some (.long res.1)) := by
  refine CT.of (by decide +kernel) (Nat.le_of_ble_eq_true rfl) ?_
  intro p e s m args below meth c A F hr hk K E hA Z ls hl
  have hl : lv_has ls 4 [(0, .int x0), (1, .int x1), (2, .int x2)] := hl
  have hx := F.1
  have hb := F.2.1
  unfold f_X2_assigned at hf
  refine lv_iload_n hx hb dX2_assigned_0 rfl (lv_at hl 1 rfl) ?_
  refine lv_iconst (v := 1) hx hb dX2_assigned_1 (by decide) ?_
  refine lv_iload_n hx hb dX2_assigned_2 rfl (lv_at hl 0 rfl) ?_
  refine lv_ishl hx hb dX2_assigned_3 ?_
  refine lv_iconst (v := 1) hx hb dX2_assigned_4 (by decide) ?_
  refine lv_isub hx hb dX2_assigned_5 ?_
  refine lv_iand hx hb dX2_assigned_6 ?_
  obtain ⟨q7, h7, hf⟩ := bind_some hf
  refine krX2_52_J6_bitCount_0f7a4 F K E hA Z h7 ⟨Nat.le_of_ble_eq_true rfl, Nat.le_of_ble_eq_true rfl⟩ hl.1 (Nat.le_of_ble_eq_true rfl) dX2_assigned_7 (fun H locs Z => ?_)
  refine lv_istore_n (lv' := [(3, .int q7.1), (0, .int x0), (1, .int x1), (2, .int x2)]) hx hb dX2_assigned_10 rfl hl (by decide) rfl (fun ls hl => ?_)
  refine lv_iload_n hx hb dX2_assigned_11 rfl (lv_at hl 0 rfl) ?_
  refine lv_if_lt (tgt := 29) hx hb dX2_assigned_12 (by decide) (fun c12 => ?_) (fun c12 => ?_)
  · have hf := if_t c12 hf
    exact b_X2_assigned_29 F hr hk K E hA _ _ _ hf _ _ _ Z (lv_sub hl [3, 0] rfl)
  have hf := if_f c12 hf
  refine lv_iload_n hx hb dX2_assigned_15 rfl (lv_at hl 0 rfl) ?_
  refine va_gets hx hb E.2.2.2.2.2.1 Z.2.2 F.2.2.2.1 (F.2.2.2.2 _ (List.mem_cons_of_mem _ wd385)) (fun _ h => h) dX2_assigned_16 ?_
  refine va_tlen hx hb E.2.2.2.2.2.2 Z.2.2 (v := 6) (by decide) dX2_assigned_19 ?_
  refine lv_icmp_ge (tgt := 29) hx hb dX2_assigned_20 (by decide) (fun c20 => ?_) (fun c20 => ?_)
  · have hf := if_t c20 hf
    exact b_X2_assigned_29 F hr hk K E hA _ _ _ hf _ _ _ Z (lv_sub hl [3, 0] rfl)
  have hf := if_f c20 hf
  refine va_gets hx hb E.2.2.2.2.2.1 Z.2.2 F.2.2.2.1 (F.2.2.2.2 _ (List.mem_cons_of_mem _ wd385)) (fun _ h => h) dX2_assigned_23 ?_
  refine lv_iload_n hx hb dX2_assigned_26 rfl (lv_at hl 0 rfl) ?_
  obtain ⟨i27, hf⟩ := if_some hf
  refine va_tl hx hb E.2.2.2.2.2.2 Z.2.2 (inB_vp i27) rfl dX2_assigned_27 ?_
  have hf := Option.some.inj hf
  subst hf
  exact ret_l F hr hk Z dX2_assigned_28
def f_X2_failing (n : Nat) (st : StT) (x1 : Int32) : Option (Int64 × StT) := (f_X1_firstOf_F0 n st x1).bind fun q6 => ((f_X2_valueOf n q6.2 q6.1).bind fun q9 => ((f_X1_secondOf_F0 n q9.2 x1).bind fun q18 => ((f_X2_valueOf n q18.2 q18.1).bind fun q21 => (some ((q9.1 &&& (q21.1 ^^^ (-1 : Int64))), q21.2)))))
set_option maxRecDepth 100000 in
set_option maxHeartbeats 4000000 in
theorem c_X2_failing {l : Launch} {D : va_G} {ad : Nat → Nat} {cy : Nat → ClassId} {ee : EE} {n : Nat} {st : StT} {x1 : Int32} {res : (Int64 × StT)} (hf : f_X2_failing n st x1 = some res) : CT l yX2_failing cX2_failing 2 (some .long) 2 42 D cy ee (wC ad cy st) (wC ad cy res.2) [.ref (ad 55), .int x1] (some (.long res.1)) := by
  refine CT.of (by decide +kernel) (Nat.le_of_ble_eq_true rfl) ?_
  intro p e s m args below meth c A F hr hk K E hA Z ls hl
  have hl : lv_has ls 2 [(0, .ref (ad 55)), (1, .int x1)] := hl
  have hx := F.1
  have hb := F.2.1
  unfold f_X2_failing at hf
  refine lv_aload_n hx hb dX2_failing_0 rfl (lv_at hl 0 rfl) ?_
  refine lv_aload_n hx hb dX2_failing_1 rfl (lv_at hl 0 rfl) ?_
  refine grX2_19_55 F K Z dX2_failing_2 ?_
  refine lv_iload_n hx hb dX2_failing_5 rfl (lv_at hl 1 rfl) ?_
  obtain ⟨q6, h6, hf⟩ := bind_some hf
  refine krX2_43_X1_firstOf_F0 F K E hA Z h6 ⟨Nat.le_of_ble_eq_true rfl, Nat.le_of_ble_eq_true rfl⟩ hl.1 (Nat.le_of_ble_eq_true rfl) dX2_failing_6 (fun H locs Z => ?_)
  obtain ⟨q9, h9, hf⟩ := bind_some hf
  refine krX2_61_X2_valueOf F K E hA Z h9 ⟨Nat.le_of_ble_eq_true rfl, Nat.le_of_ble_eq_true rfl⟩ hl.1 (Nat.le_of_ble_eq_true rfl) dX2_failing_9 (fun H locs Z => ?_)
  refine lv_aload_n hx hb dX2_failing_12 rfl (lv_at hl 0 rfl) ?_
  refine lv_aload_n hx hb dX2_failing_13 rfl (lv_at hl 0 rfl) ?_
  refine grX2_19_55 F K Z dX2_failing_14 ?_
  refine lv_iload_n hx hb dX2_failing_17 rfl (lv_at hl 1 rfl) ?_
  obtain ⟨q18, h18, hf⟩ := bind_some hf
  refine krX2_46_X1_secondOf_F0 F K E hA Z h18 ⟨Nat.le_of_ble_eq_true rfl, Nat.le_of_ble_eq_true rfl⟩ hl.1 (Nat.le_of_ble_eq_true rfl) dX2_failing_18 (fun H locs Z => ?_)
  obtain ⟨q21, h21, hf⟩ := bind_some hf
  refine krX2_61_X2_valueOf F K E hA Z h21 ⟨Nat.le_of_ble_eq_true rfl, Nat.le_of_ble_eq_true rfl⟩ hl.1 (Nat.le_of_ble_eq_true rfl) dX2_failing_21 (fun H locs Z => ?_)
  refine lv_ldc2 (v := -1) hx hb F.2.2.2.1 (F.2.2.2.2 _ (List.mem_cons_of_mem _ wd377)) dX2_failing_24 ?_
  refine lv_lxor hx hb dX2_failing_27 ?_
  refine lv_land hx hb dX2_failing_28 ?_
  have hf := Option.some.inj hf
  subst hf
  exact ret_l F hr hk Z dX2_failing_29
def f_X2_valueBy (n : Nat) (st : StT) (x1 : Int32) (x2 : Int32) (x3 : Int32) : Option (Int64 × StT) := (f_X1_kindOf_F0 n st x1).bind fun q5 => (if q5.1 = 2 then ((f_X1_firstOf_F0 n q5.2 x1).bind fun q41 => ((f_X2_assigned n q41.2 q41.1 x2 x3).bind fun q46 => (some (q46.1, q46.2)))) else (if q5.1 = 5 then ((f_X2_failing n q5.2 x1).bind fun q52 => (some ((q52.1 ^^^ (-1 : Int64)), q52.2))) else ((f_X2_simpleValue n q5.2 x1).bind fun q62 => (some (q62.1, q62.2)))))
theorem wd390 : Cond.methodLink RX2 73 yX2_simpleValue ∈ Gw := gT5 (List.mem_of_getElem? (i := 177) rfl) rfl
theorem wd391 : Cond.code yX2_simpleValue prog_4_method_11_code 6 (some .long) ∈ Gw := gT5 (List.mem_of_getElem? (i := 180) rfl) rfl
theorem wd392 : Cond.instanceMethod yX2_simpleValue ∈ Gw := gT5 (List.mem_of_getElem? (i := 179) rfl) rfl
theorem wd393 : Cond.selects RX2 yX2_simpleValue yX2_simpleValue ∈ Gw := gP5 (q := (yX2_simpleValue, 3)) (List.mem_of_getElem? (i := 1) rfl)
theorem wd394 : Cond.methodLink RX2 67 yX2_assigned ∈ Gw := gT5 (List.mem_of_getElem? (i := 163) rfl) rfl
theorem wd395 : Cond.code yX2_assigned prog_4_method_8_code 4 (some .long) ∈ Gw := gT5 (List.mem_of_getElem? (i := 165) rfl) rfl
theorem wd396 : Cond.static yX2_assigned ∈ Gw := gT5 (List.mem_of_getElem? (i := 164) rfl) rfl
theorem wd397 : Cond.methodLink RX2 70 yX2_failing ∈ Gw := gT5 (List.mem_of_getElem? (i := 169) rfl) rfl
theorem wd398 : Cond.code yX2_failing prog_4_method_12_code 2 (some .long) ∈ Gw := gT5 (List.mem_of_getElem? (i := 172) rfl) rfl
theorem wd399 : Cond.instanceMethod yX2_failing ∈ Gw := gT5 (List.mem_of_getElem? (i := 171) rfl) rfl
theorem wd400 : Cond.selects RX2 yX2_failing yX2_failing ∈ Gw := gP4 (q := (yX2_failing, 3)) (List.mem_of_getElem? (i := 15) rfl)
section
variable {p : Program} {l : Launch} {e : Env} {R : Room} {s : State} {m : MethodId} {args : Array Value} {below : List Frame} {meth : Method} {c : Code} {H : Heap} {locs : List Loc} {Q : State → Prop}
variable {cc : ByteArray} {nL pc : Nat} {ls : Array Slot} {rest : List Value} {D : va_G} {A : Nat → Prop} {cw : Cond} {ad : Nat → Nat} {cy : Nat → ClassId} {ee : EE} {st : StT} {own : String}
theorem krX2_73_X2_simpleValue {n : Nat} {a0 : Int32} {q : (Int64 × StT)} (F : CallFix p m c cc nL s args (cw :: Gw) RX2) (K : va_K D vwCl (tyL cy) s) (E : EV ee A s s.heap) (hA : ∀ q, s.heap.size ≤ q → A q) (Z : ZG D (wC ad cy st) A s H locs) (hf : f_X2_simpleValue n st a0 = some q) (hR : 3 ≤ R.frames ∧ 67 ≤ R.locals) (hl : ls.size = nL) (hst : (rest.map fun v => v.category).sum ≤ 8) (hd : decode cc pc = .ok (.invokevirtual 73, 3)) (kk : ∀ (H1 : Heap) (locs1 : List Loc), ZG D (wC ad cy q.2) A s H1 locs1 → W p l e R s m args below meth c H1 locs1 0 0 Q (F0 m (pc + 3) ls (.long q.1 :: rest))) : W p l e R s m args below meth c H locs 0 0 Q (F0 m pc ls (.int a0 :: .ref (ad 55) :: rest)) :=
  call_V (q := (RX2, TX2, 3)) (n := 1) (As := [.int a0]) (rv := some (.long q.1)) 55 2 F K E hA Z (c_X2_simpleValue (l := l) (D := D) (ad := ad) (cy := cy) (ee := ee) hf) ⟨wd391, wd390, wd392, wd393, wd366⟩ (by decide +kernel) rfl rfl hR rfl hl hst hd kk
theorem krX2_67_X2_assigned {n : Nat} {a0 : Int32} {a1 : Int32} {a2 : Int32} {q : (Int64 × StT)} (F : CallFix p m c cc nL s args (cw :: Gw) RX2) (K : va_K D vwCl (tyL cy) s) (E : EV ee A s s.heap) (hA : ∀ q, s.heap.size ≤ q → A q) (Z : ZG D (wC ad cy st) A s H locs) (hf : f_X2_assigned n st a0 a1 a2 = some q) (hR : 2 ≤ R.frames ∧ 43 ≤ R.locals) (hl : ls.size = nL) (hst : (rest.map fun v => v.category).sum ≤ 8) (hd : decode cc pc = .ok (.invokestatic 67, 3)) (kk : ∀ (H1 : Heap) (locs1 : List Loc), ZG D (wC ad cy q.2) A s H1 locs1 → W p l e R s m args below meth c H1 locs1 0 0 Q (F0 m (pc + 3) ls (.long q.1 :: rest))) : W p l e R s m args below meth c H locs 0 0 Q (F0 m pc ls (.int a2 :: .int a1 :: .int a0 :: rest)) :=
  call_S (n := 3) (As := [.int a0, .int a1, .int a2]) (rv := some (.long q.1)) F K E hA Z (c_X2_assigned (l := l) (D := D) (ad := ad) (cy := cy) (ee := ee) hf) ⟨wd395, wd394, wd396, wd366⟩ (by decide +kernel) hR rfl hl hst hd kk
theorem krX2_70_X2_failing {n : Nat} {a0 : Int32} {q : (Int64 × StT)} (F : CallFix p m c cc nL s args (cw :: Gw) RX2) (K : va_K D vwCl (tyL cy) s) (E : EV ee A s s.heap) (hA : ∀ q, s.heap.size ≤ q → A q) (Z : ZG D (wC ad cy st) A s H locs) (hf : f_X2_failing n st a0 = some q) (hR : 3 ≤ R.frames ∧ 63 ≤ R.locals) (hl : ls.size = nL) (hst : (rest.map fun v => v.category).sum ≤ 8) (hd : decode cc pc = .ok (.invokevirtual 70, 3)) (kk : ∀ (H1 : Heap) (locs1 : List Loc), ZG D (wC ad cy q.2) A s H1 locs1 → W p l e R s m args below meth c H1 locs1 0 0 Q (F0 m (pc + 3) ls (.long q.1 :: rest))) : W p l e R s m args below meth c H locs 0 0 Q (F0 m pc ls (.int a0 :: .ref (ad 55) :: rest)) :=
  call_V (q := (RX2, TX2, 3)) (n := 1) (As := [.int a0]) (rv := some (.long q.1)) 55 2 F K E hA Z (c_X2_failing (l := l) (D := D) (ad := ad) (cy := cy) (ee := ee) hf) ⟨wd398, wd397, wd399, wd400, wd366⟩ (by decide +kernel) rfl rfl hR rfl hl hst hd kk
end
set_option maxRecDepth 100000 in
set_option maxHeartbeats 4000000 in
theorem c_X2_valueBy {l : Launch} {D : va_G} {ad : Nat → Nat} {cy : Nat → ClassId} {ee : EE} {n : Nat} {st : StT} {x1 : Int32} {x2 : Int32} {x3 : Int32} {res : (Int64 × StT)} (hf : f_X2_valueBy n st x1 x2 x3 = some res) : CT l yX2_valueBy cX2_valueBy 4 (some .long) 3 67 D cy ee (wC ad cy st) (wC ad cy res.2) [.ref (ad 55), .int x1, .int x2, .int x3] (some (.long res.1)) := by
  refine CT.of (by decide +kernel) (Nat.le_of_ble_eq_true rfl) ?_
  intro p e s m args below meth c A F hr hk K E hA Z ls hl
  have hl : lv_has ls 4 [(0, .ref (ad 55)), (1, .int x1), (2, .int x2), (3, .int x3)] := hl
  have hx := F.1
  have hb := F.2.1
  unfold f_X2_valueBy at hf
  refine lv_aload_n hx hb dX2_valueBy_0 rfl (lv_at hl 0 rfl) ?_
  refine grX2_19_55 F K Z dX2_valueBy_1 ?_
  refine lv_iload_n hx hb dX2_valueBy_4 rfl (lv_at hl 1 rfl) ?_
  obtain ⟨q5, h5, hf⟩ := bind_some hf
  refine krX2_37_X1_kindOf_F0 F K E hA Z h5 ⟨Nat.le_of_ble_eq_true rfl, Nat.le_of_ble_eq_true rfl⟩ hl.1 (Nat.le_of_ble_eq_true rfl) dX2_valueBy_5 (fun H locs Z => ?_)
  by_cases c8_2 : q5.1 = 2
  · have hf := if_t c8_2 hf
    refine lv_lookup (tgt := 36) hx hb dX2_valueBy_8 (by decide) (by rw [c8_2] <;> decide) (by decide) ?_
    refine lv_aload_n hx hb dX2_valueBy_36 rfl (lv_at hl 0 rfl) ?_
    refine grX2_19_55 F K Z dX2_valueBy_37 ?_
    refine lv_iload_n hx hb dX2_valueBy_40 rfl (lv_at hl 1 rfl) ?_
    obtain ⟨q41, h41, hf⟩ := bind_some hf
    refine krX2_43_X1_firstOf_F0 F K E hA Z h41 ⟨Nat.le_of_ble_eq_true rfl, Nat.le_of_ble_eq_true rfl⟩ hl.1 (Nat.le_of_ble_eq_true rfl) dX2_valueBy_41 (fun H locs Z => ?_)
    refine lv_iload_n hx hb dX2_valueBy_44 rfl (lv_at hl 2 rfl) ?_
    refine lv_iload_n hx hb dX2_valueBy_45 rfl (lv_at hl 3 rfl) ?_
    obtain ⟨q46, h46, hf⟩ := bind_some hf
    refine krX2_67_X2_assigned F K E hA Z h46 ⟨Nat.le_of_ble_eq_true rfl, Nat.le_of_ble_eq_true rfl⟩ hl.1 (Nat.le_of_ble_eq_true rfl) dX2_valueBy_46 (fun H locs Z => ?_)
    have hf := Option.some.inj hf
    subst hf
    exact ret_l F hr hk Z dX2_valueBy_49
  have hf := if_f c8_2 hf
  by_cases c8_5 : q5.1 = 5
  · have hf := if_t c8_5 hf
    refine lv_lookup (tgt := 50) hx hb dX2_valueBy_8 (by decide) (by rw [c8_5] <;> decide) (by decide) ?_
    refine lv_aload_n hx hb dX2_valueBy_50 rfl (lv_at hl 0 rfl) ?_
    refine lv_iload_n hx hb dX2_valueBy_51 rfl (lv_at hl 1 rfl) ?_
    obtain ⟨q52, h52, hf⟩ := bind_some hf
    refine krX2_70_X2_failing F K E hA Z h52 ⟨Nat.le_of_ble_eq_true rfl, Nat.le_of_ble_eq_true rfl⟩ hl.1 (Nat.le_of_ble_eq_true rfl) dX2_valueBy_52 (fun H locs Z => ?_)
    refine lv_ldc2 (v := -1) hx hb F.2.2.2.1 (F.2.2.2.2 _ (List.mem_cons_of_mem _ wd377)) dX2_valueBy_55 ?_
    refine lv_lxor hx hb dX2_valueBy_58 ?_
    have hf := Option.some.inj hf
    subst hf
    exact ret_l F hr hk Z dX2_valueBy_59
  have hf := if_f c8_5 hf
  refine lv_lookup (tgt := 60) hx hb dX2_valueBy_8 (by decide) (off := 52) ?_ (by decide) ?_
  · exact (lv_osw c8_2 (by decide)).trans ((lv_osw c8_5 (by decide)).trans (rfl))
  refine lv_aload_n hx hb dX2_valueBy_60 rfl (lv_at hl 0 rfl) ?_
  refine lv_iload_n hx hb dX2_valueBy_61 rfl (lv_at hl 1 rfl) ?_
  obtain ⟨q62, h62, hf⟩ := bind_some hf
  refine krX2_73_X2_simpleValue F K E hA Z h62 ⟨Nat.le_of_ble_eq_true rfl, Nat.le_of_ble_eq_true rfl⟩ hl.1 (Nat.le_of_ble_eq_true rfl) dX2_valueBy_62 (fun H locs Z => ?_)
  have hf := Option.some.inj hf
  subst hf
  exact ret_l F hr hk Z dX2_valueBy_65
def f_X2_byAllAssignments_98 (n : Nat) (k41 : StT → Int32 → Int32 → Int32 → Int32 → Option (Int32 × StT)) (st : StT) (x1 : Int32) (x2 : Int32) (x4 : Int32) (x5 : Int32) : Option (Int32 × StT) := (f_X2_valueOf n st x1).bind fun q100 => (if (lg_cmp q100.1 (-1 : Int64)) = 0 then (k41 q100.2 x1 x2 x4 (x5 + (1 : Int32))) else (some ((0 : Int32), q100.2)))
def f_X2_byAllAssignments_51 (n : Nat) (k41 : StT → Int32 → Int32 → Int32 → Int32 → Option (Int32 × StT)) : Nat → StT → Int32 → Int32 → Int32 → Int32 → Int32 → Option (Int32 × StT)
  | 0, _, _, _, _, _, _ => none
  | k + 1, st, x1, x2, x4, x5, x6 => if x1 < x6 then (f_X2_byAllAssignments_98 n k41 st x1 x2 x4 x5) else (if (2000 : Int32) ≤ x6 then (f_X2_byAllAssignments_98 n k41 st x1 x2 x4 x5) else (if inB x6 2000 = true then (if (st.2.1 41 (x6).toNatClampNeg) = (1 : Int32) then ((f_X2_valueBy n st x6 x2 x5).bind fun q88 => (if inB x6 2000 = true then (f_X2_byAllAssignments_51 n k41 k (uM q88.2 2 x6 q88.1) x1 x2 x4 x5 (x6 + (1 : Int32))) else none)) else (f_X2_byAllAssignments_51 n k41 k st x1 x2 x4 x5 (x6 + (1 : Int32)))) else none))
def f_X2_byAllAssignments_41 (n : Nat) : Nat → StT → Int32 → Int32 → Int32 → Int32 → Option (Int32 × StT)
  | 0, _, _, _, _, _ => none
  | k + 1, st, x1, x2, x4, x5 => if x4 ≤ x5 then (some ((1 : Int32), st)) else (f_X2_byAllAssignments_51 n (f_X2_byAllAssignments_41 n k) n st x1 x2 x4 x5 (0 : Int32))
def f_X2_byAllAssignments (n : Nat) (st : StT) (x1 : Int32) : Option (Int32 × StT) := (f_X2_markAll n st x1).bind fun q2 => ((f_J6_bitCount_0f7a4 n q2.2 q2.1).bind fun q7 => (if q7.1 ≤ (12 : Int32) then (if q7.1 ≤ (6 : Int32) then (f_X2_byAllAssignments_41 n n q7.2 x1 q2.1 (1 : Int32) (0 : Int32)) else (f_X2_byAllAssignments_41 n n q7.2 x1 q2.1 ((1 : Int32) <<< ((q7.1 - (6 : Int32)) &&& 31)) (0 : Int32))) else (some ((-4 : Int32), q7.2))))
theorem wd401 : Cond.methodLink RX2 49 yX2_markAll ∈ Gw := gT5 (List.mem_of_getElem? (i := 138) rfl) rfl
theorem wd402 : Cond.code yX2_markAll prog_4_method_5_code 5 (some .int) ∈ Gw := gT5 (List.mem_of_getElem? (i := 141) rfl) rfl
theorem wd403 : Cond.instanceMethod yX2_markAll ∈ Gw := gT5 (List.mem_of_getElem? (i := 140) rfl) rfl
theorem wd404 : Cond.selects RX2 yX2_markAll yX2_markAll ∈ Gw := gP4 (q := (yX2_markAll, 3)) (List.mem_of_getElem? (i := 12) rfl)
theorem wd405 : Cond.methodLink RX2 57 yX2_valueBy ∈ Gw := gT5 (List.mem_of_getElem? (i := 159) rfl) rfl
theorem wd406 : Cond.code yX2_valueBy prog_4_method_7_code 4 (some .long) ∈ Gw := gT5 (List.mem_of_getElem? (i := 162) rfl) rfl
theorem wd407 : Cond.instanceMethod yX2_valueBy ∈ Gw := gT5 (List.mem_of_getElem? (i := 161) rfl) rfl
theorem wd408 : Cond.selects RX2 yX2_valueBy yX2_valueBy ∈ Gw := gP4 (q := (yX2_valueBy, 3)) (List.mem_of_getElem? (i := 14) rfl)
section
variable {p : Program} {l : Launch} {e : Env} {R : Room} {s : State} {m : MethodId} {args : Array Value} {below : List Frame} {meth : Method} {c : Code} {H : Heap} {locs : List Loc} {Q : State → Prop}
variable {cc : ByteArray} {nL pc : Nat} {ls : Array Slot} {rest : List Value} {D : va_G} {A : Nat → Prop} {cw : Cond} {ad : Nat → Nat} {cy : Nat → ClassId} {ee : EE} {st : StT} {own : String}
theorem krX2_49_X2_markAll {n : Nat} {a0 : Int32} {q : (Int32 × StT)} (F : CallFix p m c cc nL s args (cw :: Gw) RX2) (K : va_K D vwCl (tyL cy) s) (E : EV ee A s s.heap) (hA : ∀ q, s.heap.size ≤ q → A q) (Z : ZG D (wC ad cy st) A s H locs) (hf : f_X2_markAll n st a0 = some q) (hR : 3 ≤ R.frames ∧ 66 ≤ R.locals) (hl : ls.size = nL) (hst : (rest.map fun v => v.category).sum ≤ 8) (hd : decode cc pc = .ok (.invokevirtual 49, 3)) (kk : ∀ (H1 : Heap) (locs1 : List Loc), ZG D (wC ad cy q.2) A s H1 locs1 → W p l e R s m args below meth c H1 locs1 0 0 Q (F0 m (pc + 3) ls (.int q.1 :: rest))) : W p l e R s m args below meth c H locs 0 0 Q (F0 m pc ls (.int a0 :: .ref (ad 55) :: rest)) :=
  call_V (q := (RX2, TX2, 3)) (n := 1) (As := [.int a0]) (rv := some (.int q.1)) 55 2 F K E hA Z (c_X2_markAll (l := l) (D := D) (ad := ad) (cy := cy) (ee := ee) hf) ⟨wd402, wd401, wd403, wd404, wd366⟩ (by decide +kernel) rfl rfl hR rfl hl hst hd kk
theorem krX2_57_X2_valueBy {n : Nat} {a0 : Int32} {a1 : Int32} {a2 : Int32} {q : (Int64 × StT)} (F : CallFix p m c cc nL s args (cw :: Gw) RX2) (K : va_K D vwCl (tyL cy) s) (E : EV ee A s s.heap) (hA : ∀ q, s.heap.size ≤ q → A q) (Z : ZG D (wC ad cy st) A s H locs) (hf : f_X2_valueBy n st a0 a1 a2 = some q) (hR : 4 ≤ R.frames ∧ 90 ≤ R.locals) (hl : ls.size = nL) (hst : (rest.map fun v => v.category).sum ≤ 8) (hd : decode cc pc = .ok (.invokevirtual 57, 3)) (kk : ∀ (H1 : Heap) (locs1 : List Loc), ZG D (wC ad cy q.2) A s H1 locs1 → W p l e R s m args below meth c H1 locs1 0 0 Q (F0 m (pc + 3) ls (.long q.1 :: rest))) : W p l e R s m args below meth c H locs 0 0 Q (F0 m pc ls (.int a2 :: .int a1 :: .int a0 :: .ref (ad 55) :: rest)) :=
  call_V (q := (RX2, TX2, 3)) (n := 3) (As := [.int a0, .int a1, .int a2]) (rv := some (.long q.1)) 55 2 F K E hA Z (c_X2_valueBy (l := l) (D := D) (ad := ad) (cy := cy) (ee := ee) hf) ⟨wd406, wd405, wd407, wd408, wd366⟩ (by decide +kernel) rfl rfl hR rfl hl hst hd kk
end
set_option maxRecDepth 100000 in
set_option maxHeartbeats 4000000 in
theorem b_X2_byAllAssignments_98 {p : Program} {l : Launch} {e : Env} {s : State} {m : MethodId} {args : Array Value} {below : List Frame} {meth : Method} {c : Code} {D : va_G} {A : Nat → Prop} {ad : Nat → Nat} {cy : Nat → ClassId} {ee : EE} {n : Nat} {res : (Int32 × StT)} (F : CallFix p m c cX2_byAllAssignments 7 s args (Cond.code yX2_byAllAssignments cX2_byAllAssignments 7 (some .int) :: Gw) yX2_byAllAssignments.cls) (hr : meth.sig.returnType = (some .int)) (hk : meth.locks = false) (K : va_K D vwCl (tyL cy) s) (E : EV ee A s s.heap) (hA : ∀ q, s.heap.size ≤ q → A q) {k41 : StT → Int32 → Int32 → Int32 → Int32 → Option (Int32 × StT)} (hk41 : ∀ (st : StT) (x1 : Int32) (x2 : Int32) (x4 : Int32) (x5 : Int32), k41 st x1 x2 x4 x5 = some res → ∀ (H : Heap) (locs : List Loc) (ls : Array Slot), ZG D (wC ad cy st) A s H locs → lv_has ls 7 [(0, .ref (ad 55)), (1, .int x1), (2, .int x2), (4, .int x4), (5, .int x5)] → W p l e { frames := 4, cells := 0, slots := 0, locals := 90 } s m args below meth c H locs 0 0 (MQ below (QC D (some (.int res.1)) (wC ad cy res.2) A) args s 0 0 A) (F0 m 41 ls [])) : ∀ (st : StT) (x1 : Int32) (x2 : Int32) (x4 : Int32) (x5 : Int32), f_X2_byAllAssignments_98 n k41 st x1 x2 x4 x5 = some res → ∀ (H : Heap) (locs : List Loc) (ls : Array Slot), ZG D (wC ad cy st) A s H locs → lv_has ls 7 [(0, .ref (ad 55)), (1, .int x1), (2, .int x2), (4, .int x4), (5, .int x5)] → W p l e { frames := 4, cells := 0, slots := 0, locals := 90 } s m args below meth c H locs 0 0 (MQ below (QC D (some (.int res.1)) (wC ad cy res.2) A) args s 0 0 A) (F0 m 98 ls []) := by
  have hx := F.1
  have hb := F.2.1
  intro st x1 x2 x4 x5 hf H locs ls Z hl
  unfold f_X2_byAllAssignments_98 at hf
  refine lv_aload_n hx hb dX2_byAllAssignments_98 rfl (lv_at hl 0 rfl) ?_
  refine lv_iload_n hx hb dX2_byAllAssignments_99 rfl (lv_at hl 1 rfl) ?_
  obtain ⟨q100, h100, hf⟩ := bind_some hf
  refine krX2_61_X2_valueOf F K E hA Z h100 ⟨Nat.le_of_ble_eq_true rfl, Nat.le_of_ble_eq_true rfl⟩ hl.1 (Nat.le_of_ble_eq_true rfl) dX2_byAllAssignments_100 (fun H locs Z => ?_)
  refine lv_ldc2 (v := -1) hx hb F.2.2.2.1 (F.2.2.2.2 _ (List.mem_cons_of_mem _ wd377)) dX2_byAllAssignments_103 ?_
  refine W.lcmp hx hb dX2_byAllAssignments_106 ?_
  refine lv_if_eq (tgt := 112) hx hb dX2_byAllAssignments_107 (by decide) (fun c107 => ?_) (fun c107 => ?_)
  · have hf := if_t c107 hf
    refine lv_iinc (v := (x5 + (1 : Int32))) (lv' := [(5, .int (x5 + (1 : Int32))), (0, .ref (ad 55)), (1, .int x1), (2, .int x2), (4, .int x4)]) hx hb dX2_byAllAssignments_112 hl (k := 4) rfl (congrArg (fun z => x5 + z) (by decide)) (by decide) rfl (fun ls hl => ?_)
    refine lv_goto (tgt := 41) hx hb dX2_byAllAssignments_115 (by decide) ?_
    exact hk41 _ _ _ _ _ hf _ _ _ Z (lv_sub hl [1, 2, 3, 4, 0] rfl)
  have hf := if_f c107 hf
  refine lv_iconst (v := 0) hx hb dX2_byAllAssignments_110 (by decide) ?_
  have hf := Option.some.inj hf
  subst hf
  exact ret_i F hr hk Z dX2_byAllAssignments_111
set_option maxRecDepth 100000 in
set_option maxHeartbeats 4000000 in
theorem b_X2_byAllAssignments_51 {p : Program} {l : Launch} {e : Env} {s : State} {m : MethodId} {args : Array Value} {below : List Frame} {meth : Method} {c : Code} {D : va_G} {A : Nat → Prop} {ad : Nat → Nat} {cy : Nat → ClassId} {ee : EE} {n : Nat} {res : (Int32 × StT)} (F : CallFix p m c cX2_byAllAssignments 7 s args (Cond.code yX2_byAllAssignments cX2_byAllAssignments 7 (some .int) :: Gw) yX2_byAllAssignments.cls) (hr : meth.sig.returnType = (some .int)) (hk : meth.locks = false) (K : va_K D vwCl (tyL cy) s) (E : EV ee A s s.heap) (hA : ∀ q, s.heap.size ≤ q → A q) {k41 : StT → Int32 → Int32 → Int32 → Int32 → Option (Int32 × StT)} (hk41 : ∀ (st : StT) (x1 : Int32) (x2 : Int32) (x4 : Int32) (x5 : Int32), k41 st x1 x2 x4 x5 = some res → ∀ (H : Heap) (locs : List Loc) (ls : Array Slot), ZG D (wC ad cy st) A s H locs → lv_has ls 7 [(0, .ref (ad 55)), (1, .int x1), (2, .int x2), (4, .int x4), (5, .int x5)] → W p l e { frames := 4, cells := 0, slots := 0, locals := 90 } s m args below meth c H locs 0 0 (MQ below (QC D (some (.int res.1)) (wC ad cy res.2) A) args s 0 0 A) (F0 m 41 ls [])) : ∀ (k : Nat) (st : StT) (x1 : Int32) (x2 : Int32) (x4 : Int32) (x5 : Int32) (x6 : Int32), f_X2_byAllAssignments_51 n k41 k st x1 x2 x4 x5 x6 = some res → ∀ (H : Heap) (locs : List Loc) (ls : Array Slot), ZG D (wC ad cy st) A s H locs → lv_has ls 7 [(0, .ref (ad 55)), (1, .int x1), (2, .int x2), (4, .int x4), (5, .int x5), (6, .int x6)] → W p l e { frames := 4, cells := 0, slots := 0, locals := 90 } s m args below meth c H locs 0 0 (MQ below (QC D (some (.int res.1)) (wC ad cy res.2) A) args s 0 0 A) (F0 m 51 ls []) := by
  have hx := F.1
  have hb := F.2.1
  intro k
  induction k with
  | zero =>
    intro st x1 x2 x4 x5 x6 hf
    exact absurd hf (by simp [f_X2_byAllAssignments_51])
  | succ k ih =>
    intro st x1 x2 x4 x5 x6 hf H locs ls Z hl
    rw [f_X2_byAllAssignments_51] at hf
    refine lv_iload hx hb dX2_byAllAssignments_51 (lv_at hl 5 rfl) ?_
    refine lv_iload_n hx hb dX2_byAllAssignments_53 rfl (lv_at hl 1 rfl) ?_
    refine lv_icmp_gt (tgt := 98) hx hb dX2_byAllAssignments_54 (by decide) (fun c54 => ?_) (fun c54 => ?_)
    · have hf := if_t c54 hf
      exact b_X2_byAllAssignments_98 F hr hk K E hA hk41 _ _ _ _ _ hf _ _ _ Z (lv_sub hl [0, 1, 2, 3, 4] rfl)
    have hf := if_f c54 hf
    refine lv_iload hx hb dX2_byAllAssignments_57 (lv_at hl 5 rfl) ?_
    refine lv_sipush (v := 2000) hx hb dX2_byAllAssignments_59 (by decide) ?_
    refine lv_icmp_ge (tgt := 98) hx hb dX2_byAllAssignments_62 (by decide) (fun c62 => ?_) (fun c62 => ?_)
    · have hf := if_t c62 hf
      exact b_X2_byAllAssignments_98 F hr hk K E hA hk41 _ _ _ _ _ hf _ _ _ Z (lv_sub hl [0, 1, 2, 3, 4] rfl)
    have hf := if_f c62 hf
    refine lv_aload_n hx hb dX2_byAllAssignments_65 rfl (lv_at hl 0 rfl) ?_
    refine grX2_9_55 F K Z dX2_byAllAssignments_66 ?_
    refine lv_iload hx hb dX2_byAllAssignments_69 (lv_at hl 5 rfl) ?_
    obtain ⟨i71, hf⟩ := if_some hf
    refine al56 F K Z i71 dX2_byAllAssignments_71 ?_
    refine lv_iconst (v := 1) hx hb dX2_byAllAssignments_72 (by decide) ?_
    refine lv_icmp_ne (tgt := 92) hx hb dX2_byAllAssignments_73 (by decide) (fun c73 => ?_) (fun c73 => ?_)
    · have hf := if_f c73 hf
      refine lv_iinc (v := (x6 + (1 : Int32))) (lv' := [(6, .int (x6 + (1 : Int32))), (0, .ref (ad 55)), (1, .int x1), (2, .int x2), (4, .int x4), (5, .int x5)]) hx hb dX2_byAllAssignments_92 hl (k := 5) rfl (congrArg (fun z => x6 + z) (by decide)) (by decide) rfl (fun ls hl => ?_)
      refine lv_goto (tgt := 51) hx hb dX2_byAllAssignments_95 (by decide) ?_
      exact ih _ _ _ _ _ _ hf _ _ _ Z (lv_sub hl [1, 2, 3, 4, 5, 0] rfl)
    have hf := if_t c73 hf
    refine lv_aload_n hx hb dX2_byAllAssignments_76 rfl (lv_at hl 0 rfl) ?_
    refine grX2_15_55 F K Z dX2_byAllAssignments_77 ?_
    refine lv_iload hx hb dX2_byAllAssignments_80 (lv_at hl 5 rfl) ?_
    refine lv_aload_n hx hb dX2_byAllAssignments_82 rfl (lv_at hl 0 rfl) ?_
    refine lv_iload hx hb dX2_byAllAssignments_83 (lv_at hl 5 rfl) ?_
    refine lv_iload_n hx hb dX2_byAllAssignments_85 rfl (lv_at hl 2 rfl) ?_
    refine lv_iload hx hb dX2_byAllAssignments_86 (lv_at hl 4 rfl) ?_
    obtain ⟨q88, h88, hf⟩ := bind_some hf
    refine krX2_57_X2_valueBy F K E hA Z h88 ⟨Nat.le_of_ble_eq_true rfl, Nat.le_of_ble_eq_true rfl⟩ hl.1 (Nat.le_of_ble_eq_true rfl) dX2_byAllAssignments_88 (fun H locs Z => ?_)
    obtain ⟨i91, hf⟩ := if_some hf
    refine as57 F K Z i91 dX2_byAllAssignments_91 (fun H locs Z => ?_)
    refine lv_iinc (v := (x6 + (1 : Int32))) (lv' := [(6, .int (x6 + (1 : Int32))), (0, .ref (ad 55)), (1, .int x1), (2, .int x2), (4, .int x4), (5, .int x5)]) hx hb dX2_byAllAssignments_92 hl (k := 5) rfl (congrArg (fun z => x6 + z) (by decide)) (by decide) rfl (fun ls hl => ?_)
    refine lv_goto (tgt := 51) hx hb dX2_byAllAssignments_95 (by decide) ?_
    exact ih _ _ _ _ _ _ hf _ _ _ Z (lv_sub hl [1, 2, 3, 4, 5, 0] rfl)
set_option maxRecDepth 100000 in
set_option maxHeartbeats 4000000 in
theorem b_X2_byAllAssignments_41 {p : Program} {l : Launch} {e : Env} {s : State} {m : MethodId} {args : Array Value} {below : List Frame} {meth : Method} {c : Code} {D : va_G} {A : Nat → Prop} {ad : Nat → Nat} {cy : Nat → ClassId} {ee : EE} {n : Nat} {res : (Int32 × StT)} (F : CallFix p m c cX2_byAllAssignments 7 s args (Cond.code yX2_byAllAssignments cX2_byAllAssignments 7 (some .int) :: Gw) yX2_byAllAssignments.cls) (hr : meth.sig.returnType = (some .int)) (hk : meth.locks = false) (K : va_K D vwCl (tyL cy) s) (E : EV ee A s s.heap) (hA : ∀ q, s.heap.size ≤ q → A q) : ∀ (k : Nat) (st : StT) (x1 : Int32) (x2 : Int32) (x4 : Int32) (x5 : Int32), f_X2_byAllAssignments_41 n k st x1 x2 x4 x5 = some res → ∀ (H : Heap) (locs : List Loc) (ls : Array Slot), ZG D (wC ad cy st) A s H locs → lv_has ls 7 [(0, .ref (ad 55)), (1, .int x1), (2, .int x2), (4, .int x4), (5, .int x5)] → W p l e { frames := 4, cells := 0, slots := 0, locals := 90 } s m args below meth c H locs 0 0 (MQ below (QC D (some (.int res.1)) (wC ad cy res.2) A) args s 0 0 A) (F0 m 41 ls []) := by
  have hx := F.1
  have hb := F.2.1
  intro k
  induction k with
  | zero =>
    intro st x1 x2 x4 x5 hf
    exact absurd hf (by simp [f_X2_byAllAssignments_41])
  | succ k ih =>
    intro st x1 x2 x4 x5 hf H locs ls Z hl
    rw [f_X2_byAllAssignments_41] at hf
    refine lv_iload hx hb dX2_byAllAssignments_41 (lv_at hl 4 rfl) ?_
    refine lv_iload hx hb dX2_byAllAssignments_43 (lv_at hl 3 rfl) ?_
    refine lv_icmp_ge (tgt := 118) hx hb dX2_byAllAssignments_45 (by decide) (fun c45 => ?_) (fun c45 => ?_)
    · have hf := if_t c45 hf
      refine lv_iconst (v := 1) hx hb dX2_byAllAssignments_118 (by decide) ?_
      have hf := Option.some.inj hf
      subst hf
      exact ret_i F hr hk Z dX2_byAllAssignments_119
    have hf := if_f c45 hf
    refine lv_iconst (v := 0) hx hb dX2_byAllAssignments_48 (by decide) ?_
    refine lv_istore (lv' := [(6, .int (0 : Int32)), (0, .ref (ad 55)), (1, .int x1), (2, .int x2), (4, .int x4), (5, .int x5)]) hx hb dX2_byAllAssignments_49 hl (by decide) rfl (fun ls hl => ?_)
    exact b_X2_byAllAssignments_51 F hr hk K E hA ih _ _ _ _ _ _ _ hf _ _ _ Z (lv_sub hl [1, 2, 3, 4, 5, 0] rfl)
set_option maxRecDepth 100000 in
set_option maxHeartbeats 4000000 in
theorem c_X2_byAllAssignments {l : Launch} {D : va_G} {ad : Nat → Nat} {cy : Nat → ClassId} {ee : EE} {n : Nat} {st : StT} {x1 : Int32} {res : (Int32 × StT)} (hf : f_X2_byAllAssignments n st x1 = some res) : CT l yX2_byAllAssignments cX2_byAllAssignments 7 (some .int) 4 90 D cy ee (wC ad cy st) (wC ad cy res.2) [.ref (ad 55), .int x1] (some (.int res.1)) := by
  refine CT.of (by decide +kernel) (Nat.le_of_ble_eq_true rfl) ?_
  intro p e s m args below meth c A F hr hk K E hA Z ls hl
  have hl : lv_has ls 7 [(0, .ref (ad 55)), (1, .int x1)] := hl
  have hx := F.1
  have hb := F.2.1
  unfold f_X2_byAllAssignments at hf
  refine lv_aload_n hx hb dX2_byAllAssignments_0 rfl (lv_at hl 0 rfl) ?_
  refine lv_iload_n hx hb dX2_byAllAssignments_1 rfl (lv_at hl 1 rfl) ?_
  obtain ⟨q2, h2, hf⟩ := bind_some hf
  refine krX2_49_X2_markAll F K E hA Z h2 ⟨Nat.le_of_ble_eq_true rfl, Nat.le_of_ble_eq_true rfl⟩ hl.1 (Nat.le_of_ble_eq_true rfl) dX2_byAllAssignments_2 (fun H locs Z => ?_)
  refine lv_istore_n (lv' := [(2, .int q2.1), (0, .ref (ad 55)), (1, .int x1)]) hx hb dX2_byAllAssignments_5 rfl hl (by decide) rfl (fun ls hl => ?_)
  refine lv_iload_n hx hb dX2_byAllAssignments_6 rfl (lv_at hl 0 rfl) ?_
  obtain ⟨q7, h7, hf⟩ := bind_some hf
  refine krX2_52_J6_bitCount_0f7a4 F K E hA Z h7 ⟨Nat.le_of_ble_eq_true rfl, Nat.le_of_ble_eq_true rfl⟩ hl.1 (Nat.le_of_ble_eq_true rfl) dX2_byAllAssignments_7 (fun H locs Z => ?_)
  refine lv_istore_n (lv' := [(3, .int q7.1), (2, .int q2.1), (0, .ref (ad 55)), (1, .int x1)]) hx hb dX2_byAllAssignments_10 rfl hl (by decide) rfl (fun ls hl => ?_)
  refine lv_iload_n hx hb dX2_byAllAssignments_11 rfl (lv_at hl 0 rfl) ?_
  refine lv_bipush (v := 12) hx hb dX2_byAllAssignments_12 (by decide) ?_
  refine lv_icmp_le (tgt := 20) hx hb dX2_byAllAssignments_14 (by decide) (fun c14 => ?_) (fun c14 => ?_)
  · have hf := if_t c14 hf
    refine lv_iload_n hx hb dX2_byAllAssignments_20 rfl (lv_at hl 0 rfl) ?_
    refine lv_bipush (v := 6) hx hb dX2_byAllAssignments_21 (by decide) ?_
    refine lv_icmp_le (tgt := 35) hx hb dX2_byAllAssignments_23 (by decide) (fun c23 => ?_) (fun c23 => ?_)
    · have hf := if_t c23 hf
      refine lv_iconst (v := 1) hx hb dX2_byAllAssignments_35 (by decide) ?_
      refine lv_istore (lv' := [(4, .int (1 : Int32)), (3, .int q7.1), (2, .int q2.1), (0, .ref (ad 55)), (1, .int x1)]) hx hb dX2_byAllAssignments_36 hl (by decide) rfl (fun ls hl => ?_)
      refine lv_iconst (v := 0) hx hb dX2_byAllAssignments_38 (by decide) ?_
      refine lv_istore (lv' := [(5, .int (0 : Int32)), (4, .int (1 : Int32)), (3, .int q7.1), (2, .int q2.1), (0, .ref (ad 55)), (1, .int x1)]) hx hb dX2_byAllAssignments_39 hl (by decide) rfl (fun ls hl => ?_)
      exact b_X2_byAllAssignments_41 F hr hk K E hA _ _ _ _ _ _ hf _ _ _ Z (lv_sub hl [4, 5, 3, 1, 0] rfl)
    have hf := if_f c23 hf
    refine lv_iconst (v := 1) hx hb dX2_byAllAssignments_26 (by decide) ?_
    refine lv_iload_n hx hb dX2_byAllAssignments_27 rfl (lv_at hl 0 rfl) ?_
    refine lv_bipush (v := 6) hx hb dX2_byAllAssignments_28 (by decide) ?_
    refine lv_isub hx hb dX2_byAllAssignments_30 ?_
    refine lv_ishl hx hb dX2_byAllAssignments_31 ?_
    refine lv_goto (tgt := 36) hx hb dX2_byAllAssignments_32 (by decide) ?_
    refine lv_istore (lv' := [(4, .int ((1 : Int32) <<< ((q7.1 - (6 : Int32)) &&& 31))), (3, .int q7.1), (2, .int q2.1), (0, .ref (ad 55)), (1, .int x1)]) hx hb dX2_byAllAssignments_36 hl (by decide) rfl (fun ls hl => ?_)
    refine lv_iconst (v := 0) hx hb dX2_byAllAssignments_38 (by decide) ?_
    refine lv_istore (lv' := [(5, .int (0 : Int32)), (4, .int ((1 : Int32) <<< ((q7.1 - (6 : Int32)) &&& 31))), (3, .int q7.1), (2, .int q2.1), (0, .ref (ad 55)), (1, .int x1)]) hx hb dX2_byAllAssignments_39 hl (by decide) rfl (fun ls hl => ?_)
    exact b_X2_byAllAssignments_41 F hr hk K E hA _ _ _ _ _ _ hf _ _ _ Z (lv_sub hl [4, 5, 3, 1, 0] rfl)
  have hf := if_f c14 hf
  refine lv_bipush (v := -4) hx hb dX2_byAllAssignments_17 (by decide) ?_
  have hf := Option.some.inj hf
  subst hf
  exact ret_i F hr hk Z dX2_byAllAssignments_19
def f_X2_valueIn_58 (n : Nat) (st : StT) (x1 : Int32) : Option (Int64 × StT) := (f_X1_kindOf_F0 n st x1).bind fun q5 => (if q5.1 = 2 then ((f_X1_firstOf_F0 n q5.2 x1).bind fun q42 => ((f_X9_forcing n q42.2 q42.1).bind fun q45 => (some (q45.1, q45.2)))) else (if q5.1 = 5 then ((f_X2_failing n q5.2 x1).bind fun q52 => ((f_X9_below n q52.2 q52.1).bind fun q55 => (some ((q55.1 ^^^ (-1 : Int64)), q55.2)))) else ((f_X2_simpleValue n q5.2 x1).bind fun q65 => (some (q65.1, q65.2)))))
theorem wd409 : Cond.methodLink RX2 83 yX9_forcing ∈ Gw := gT6 (List.mem_of_getElem? (i := 42) rfl) rfl
theorem wd410 : Cond.code yX9_forcing prog_11_method_9_code 5 (some .long) ∈ Gw := gT6 (List.mem_of_getElem? (i := 45) rfl) rfl
theorem wd411 : Cond.instanceMethod yX9_forcing ∈ Gw := gT6 (List.mem_of_getElem? (i := 43) rfl) rfl
theorem wd412 : Cond.selects RX9 yX9_forcing yX9_forcing ∈ Gw := gT6 (List.mem_of_getElem? (i := 44) rfl) rfl
theorem wd413 : Cond.methodLink RX2 88 yX9_below ∈ Gw := gT6 (List.mem_of_getElem? (i := 46) rfl) rfl
theorem wd414 : Cond.code yX9_below prog_11_method_11_code 6 (some .long) ∈ Gw := gT6 (List.mem_of_getElem? (i := 49) rfl) rfl
theorem wd415 : Cond.instanceMethod yX9_below ∈ Gw := gT6 (List.mem_of_getElem? (i := 47) rfl) rfl
theorem wd416 : Cond.selects RX9 yX9_below yX9_below ∈ Gw := gT6 (List.mem_of_getElem? (i := 48) rfl) rfl
section
variable {p : Program} {l : Launch} {e : Env} {R : Room} {s : State} {m : MethodId} {args : Array Value} {below : List Frame} {meth : Method} {c : Code} {H : Heap} {locs : List Loc} {Q : State → Prop}
variable {cc : ByteArray} {nL pc : Nat} {ls : Array Slot} {rest : List Value} {D : va_G} {A : Nat → Prop} {cw : Cond} {ad : Nat → Nat} {cy : Nat → ClassId} {ee : EE} {st : StT} {own : String}
theorem krX2_83_X9_forcing {n : Nat} {a0 : Int32} {q : (Int64 × StT)} (F : CallFix p m c cc nL s args (cw :: Gw) RX2) (K : va_K D vwCl (tyL cy) s) (E : EV ee A s s.heap) (hA : ∀ q, s.heap.size ≤ q → A q) (Z : ZG D (wC ad cy st) A s H locs) (hf : f_X9_forcing n st a0 = some q) (hR : 3 ≤ R.frames ∧ 67 ≤ R.locals) (hl : ls.size = nL) (hst : (rest.map fun v => v.category).sum ≤ 8) (hd : decode cc pc = .ok (.invokevirtual 83, 3)) (kk : ∀ (H1 : Heap) (locs1 : List Loc), ZG D (wC ad cy q.2) A s H1 locs1 → W p l e R s m args below meth c H1 locs1 0 0 Q (F0 m (pc + 3) ls (.long q.1 :: rest))) : W p l e R s m args below meth c H locs 0 0 Q (F0 m pc ls (.int a0 :: .ref (ad 58) :: rest)) :=
  call_V (q := (RX9, TX9, 6)) (n := 1) (As := [.int a0]) (rv := some (.long q.1)) 58 9 F K E hA Z (c_X9_forcing (l := l) (D := D) (ad := ad) (cy := cy) (ee := ee) hf) ⟨wd410, wd409, wd411, wd412, wd319⟩ (by decide +kernel) rfl rfl hR rfl hl hst hd kk
theorem krX2_88_X9_below {n : Nat} {a0 : Int64} {q : (Int64 × StT)} (F : CallFix p m c cc nL s args (cw :: Gw) RX2) (K : va_K D vwCl (tyL cy) s) (E : EV ee A s s.heap) (hA : ∀ q, s.heap.size ≤ q → A q) (Z : ZG D (wC ad cy st) A s H locs) (hf : f_X9_below n st a0 = some q) (hR : 2 ≤ R.frames ∧ 46 ≤ R.locals) (hl : ls.size = nL) (hst : (rest.map fun v => v.category).sum ≤ 8) (hd : decode cc pc = .ok (.invokevirtual 88, 3)) (kk : ∀ (H1 : Heap) (locs1 : List Loc), ZG D (wC ad cy q.2) A s H1 locs1 → W p l e R s m args below meth c H1 locs1 0 0 Q (F0 m (pc + 3) ls (.long q.1 :: rest))) : W p l e R s m args below meth c H locs 0 0 Q (F0 m pc ls (.long a0 :: .ref (ad 58) :: rest)) :=
  call_V (q := (RX9, TX9, 6)) (n := 1) (As := [.long a0]) (rv := some (.long q.1)) 58 9 F K E hA Z (c_X9_below (l := l) (D := D) (ad := ad) (cy := cy) (ee := ee) hf) ⟨wd414, wd413, wd415, wd416, wd319⟩ (by decide +kernel) rfl rfl hR rfl hl hst hd kk
end
set_option maxRecDepth 100000 in
set_option maxHeartbeats 4000000 in
theorem c_X2_valueIn_58 {l : Launch} {D : va_G} {ad : Nat → Nat} {cy : Nat → ClassId} {ee : EE} {n : Nat} {st : StT} {x1 : Int32} {res : (Int64 × StT)} (hf : f_X2_valueIn_58 n st x1 = some res) : CT l yX2_valueIn cX2_valueIn 3 (some .long) 3 67 D cy ee (wC ad cy st) (wC ad cy res.2) [.ref (ad 55), .int x1, .ref (ad 58)] (some (.long res.1)) := by
  refine CT.of (by decide +kernel) (Nat.le_of_ble_eq_true rfl) ?_
  intro p e s m args below meth c A F hr hk K E hA Z ls hl
  have hl : lv_has ls 3 [(0, .ref (ad 55)), (1, .int x1), (2, .ref (ad 58))] := hl
  have hx := F.1
  have hb := F.2.1
  unfold f_X2_valueIn_58 at hf
  refine lv_aload_n hx hb dX2_valueIn_0 rfl (lv_at hl 0 rfl) ?_
  refine grX2_19_55 F K Z dX2_valueIn_1 ?_
  refine lv_iload_n hx hb dX2_valueIn_4 rfl (lv_at hl 1 rfl) ?_
  obtain ⟨q5, h5, hf⟩ := bind_some hf
  refine krX2_37_X1_kindOf_F0 F K E hA Z h5 ⟨Nat.le_of_ble_eq_true rfl, Nat.le_of_ble_eq_true rfl⟩ hl.1 (Nat.le_of_ble_eq_true rfl) dX2_valueIn_5 (fun H locs Z => ?_)
  by_cases c8_2 : q5.1 = 2
  · have hf := if_t c8_2 hf
    refine lv_lookup (tgt := 36) hx hb dX2_valueIn_8 (by decide) (by rw [c8_2] <;> decide) (by decide) ?_
    refine lv_aload_n hx hb dX2_valueIn_36 rfl (lv_at hl 2 rfl) ?_
    refine lv_aload_n hx hb dX2_valueIn_37 rfl (lv_at hl 0 rfl) ?_
    refine grX2_19_55 F K Z dX2_valueIn_38 ?_
    refine lv_iload_n hx hb dX2_valueIn_41 rfl (lv_at hl 1 rfl) ?_
    obtain ⟨q42, h42, hf⟩ := bind_some hf
    refine krX2_43_X1_firstOf_F0 F K E hA Z h42 ⟨Nat.le_of_ble_eq_true rfl, Nat.le_of_ble_eq_true rfl⟩ hl.1 (Nat.le_of_ble_eq_true rfl) dX2_valueIn_42 (fun H locs Z => ?_)
    obtain ⟨q45, h45, hf⟩ := bind_some hf
    refine krX2_83_X9_forcing F K E hA Z h45 ⟨Nat.le_of_ble_eq_true rfl, Nat.le_of_ble_eq_true rfl⟩ hl.1 (Nat.le_of_ble_eq_true rfl) dX2_valueIn_45 (fun H locs Z => ?_)
    have hf := Option.some.inj hf
    subst hf
    exact ret_l F hr hk Z dX2_valueIn_48
  have hf := if_f c8_2 hf
  by_cases c8_5 : q5.1 = 5
  · have hf := if_t c8_5 hf
    refine lv_lookup (tgt := 49) hx hb dX2_valueIn_8 (by decide) (by rw [c8_5] <;> decide) (by decide) ?_
    refine lv_aload_n hx hb dX2_valueIn_49 rfl (lv_at hl 2 rfl) ?_
    refine lv_aload_n hx hb dX2_valueIn_50 rfl (lv_at hl 0 rfl) ?_
    refine lv_iload_n hx hb dX2_valueIn_51 rfl (lv_at hl 1 rfl) ?_
    obtain ⟨q52, h52, hf⟩ := bind_some hf
    refine krX2_70_X2_failing F K E hA Z h52 ⟨Nat.le_of_ble_eq_true rfl, Nat.le_of_ble_eq_true rfl⟩ hl.1 (Nat.le_of_ble_eq_true rfl) dX2_valueIn_52 (fun H locs Z => ?_)
    obtain ⟨q55, h55, hf⟩ := bind_some hf
    refine krX2_88_X9_below F K E hA Z h55 ⟨Nat.le_of_ble_eq_true rfl, Nat.le_of_ble_eq_true rfl⟩ hl.1 (Nat.le_of_ble_eq_true rfl) dX2_valueIn_55 (fun H locs Z => ?_)
    refine lv_ldc2 (v := -1) hx hb F.2.2.2.1 (F.2.2.2.2 _ (List.mem_cons_of_mem _ wd377)) dX2_valueIn_58 ?_
    refine lv_lxor hx hb dX2_valueIn_61 ?_
    have hf := Option.some.inj hf
    subst hf
    exact ret_l F hr hk Z dX2_valueIn_62
  have hf := if_f c8_5 hf
  refine lv_lookup (tgt := 63) hx hb dX2_valueIn_8 (by decide) (off := 55) ?_ (by decide) ?_
  · exact (lv_osw c8_2 (by decide)).trans ((lv_osw c8_5 (by decide)).trans (rfl))
  refine lv_aload_n hx hb dX2_valueIn_63 rfl (lv_at hl 0 rfl) ?_
  refine lv_iload_n hx hb dX2_valueIn_64 rfl (lv_at hl 1 rfl) ?_
  obtain ⟨q65, h65, hf⟩ := bind_some hf
  refine krX2_73_X2_simpleValue F K E hA Z h65 ⟨Nat.le_of_ble_eq_true rfl, Nat.le_of_ble_eq_true rfl⟩ hl.1 (Nat.le_of_ble_eq_true rfl) dX2_valueIn_65 (fun H locs Z => ?_)
  have hf := Option.some.inj hf
  subst hf
  exact ret_l F hr hk Z dX2_valueIn_68
def f_X2_inWorlds_58_8 (n : Nat) : Nat → StT → Int32 → Int32 → Option (Int64 × StT)
  | 0, _, _, _ => none
  | k + 1, st, x1, x3 => if x1 < x3 then ((f_X2_valueOf n st x1).bind fun q50 => (some (q50.1, q50.2))) else (if (2000 : Int32) ≤ x3 then ((f_X2_valueOf n st x1).bind fun q50 => (some (q50.1, q50.2))) else (if inB x3 2000 = true then (if (st.2.1 41 (x3).toNatClampNeg) = (1 : Int32) then ((f_X2_valueIn_58 n st x3).bind fun q38 => (if inB x3 2000 = true then (f_X2_inWorlds_58_8 n k (uM q38.2 2 x3 q38.1) x1 (x3 + (1 : Int32))) else none)) else (f_X2_inWorlds_58_8 n k st x1 (x3 + (1 : Int32)))) else none))
def f_X2_inWorlds_58 (n : Nat) (st : StT) (x1 : Int32) : Option (Int64 × StT) := (f_X2_markAll n st x1).bind fun q2 => (f_X2_inWorlds_58_8 n n q2.2 x1 (0 : Int32))
theorem wd417 : Cond.methodLink RX2 79 yX2_valueIn ∈ Gw := gT6 (List.mem_of_getElem? (i := 38) rfl) rfl
theorem wd418 : Cond.code yX2_valueIn prog_4_method_10_code 3 (some .long) ∈ Gw := gT6 (List.mem_of_getElem? (i := 41) rfl) rfl
theorem wd419 : Cond.instanceMethod yX2_valueIn ∈ Gw := gT6 (List.mem_of_getElem? (i := 40) rfl) rfl
theorem wd420 : Cond.selects RX2 yX2_valueIn yX2_valueIn ∈ Gw := gP5 (q := (yX2_valueIn, 3)) (List.mem_of_getElem? (i := 4) rfl)
section
variable {p : Program} {l : Launch} {e : Env} {R : Room} {s : State} {m : MethodId} {args : Array Value} {below : List Frame} {meth : Method} {c : Code} {H : Heap} {locs : List Loc} {Q : State → Prop}
variable {cc : ByteArray} {nL pc : Nat} {ls : Array Slot} {rest : List Value} {D : va_G} {A : Nat → Prop} {cw : Cond} {ad : Nat → Nat} {cy : Nat → ClassId} {ee : EE} {st : StT} {own : String}
theorem krX2_79_X2_valueIn_58 {n : Nat} {a0 : Int32} {q : (Int64 × StT)} (F : CallFix p m c cc nL s args (cw :: Gw) RX2) (K : va_K D vwCl (tyL cy) s) (E : EV ee A s s.heap) (hA : ∀ q, s.heap.size ≤ q → A q) (Z : ZG D (wC ad cy st) A s H locs) (hf : f_X2_valueIn_58 n st a0 = some q) (hR : 4 ≤ R.frames ∧ 89 ≤ R.locals) (hl : ls.size = nL) (hst : (rest.map fun v => v.category).sum ≤ 8) (hd : decode cc pc = .ok (.invokevirtual 79, 3)) (kk : ∀ (H1 : Heap) (locs1 : List Loc), ZG D (wC ad cy q.2) A s H1 locs1 → W p l e R s m args below meth c H1 locs1 0 0 Q (F0 m (pc + 3) ls (.long q.1 :: rest))) : W p l e R s m args below meth c H locs 0 0 Q (F0 m pc ls (.ref (ad 58) :: .int a0 :: .ref (ad 55) :: rest)) :=
  call_V (q := (RX2, TX2, 3)) (n := 2) (As := [.int a0, .ref (ad 58)]) (rv := some (.long q.1)) 55 2 F K E hA Z (c_X2_valueIn_58 (l := l) (D := D) (ad := ad) (cy := cy) (ee := ee) hf) ⟨wd418, wd417, wd419, wd420, wd366⟩ (by decide +kernel) rfl rfl hR rfl hl hst hd kk
end
set_option maxRecDepth 100000 in
set_option maxHeartbeats 4000000 in
theorem b_X2_inWorlds_58_8 {p : Program} {l : Launch} {e : Env} {s : State} {m : MethodId} {args : Array Value} {below : List Frame} {meth : Method} {c : Code} {D : va_G} {A : Nat → Prop} {ad : Nat → Nat} {cy : Nat → ClassId} {ee : EE} {n : Nat} {res : (Int64 × StT)} (F : CallFix p m c cX2_inWorlds 4 s args (Cond.code yX2_inWorlds cX2_inWorlds 4 (some .long) :: Gw) yX2_inWorlds.cls) (hr : meth.sig.returnType = (some .long)) (hk : meth.locks = false) (K : va_K D vwCl (tyL cy) s) (E : EV ee A s s.heap) (hA : ∀ q, s.heap.size ≤ q → A q) : ∀ (k : Nat) (st : StT) (x1 : Int32) (x3 : Int32), f_X2_inWorlds_58_8 n k st x1 x3 = some res → ∀ (H : Heap) (locs : List Loc) (ls : Array Slot), ZG D (wC ad cy st) A s H locs → lv_has ls 4 [(0, .ref (ad 55)), (1, .int x1), (2, .ref (ad 58)), (3, .int x3)] → W p l e { frames := 4, cells := 0, slots := 0, locals := 89 } s m args below meth c H locs 0 0 (MQ below (QC D (some (.long res.1)) (wC ad cy res.2) A) args s 0 0 A) (F0 m 8 ls []) := by
  have hx := F.1
  have hb := F.2.1
  intro k
  induction k with
  | zero =>
    intro st x1 x3 hf
    exact absurd hf (by simp [f_X2_inWorlds_58_8])
  | succ k ih =>
    intro st x1 x3 hf H locs ls Z hl
    rw [f_X2_inWorlds_58_8] at hf
    refine lv_iload_n hx hb dX2_inWorlds_8 rfl (lv_at hl 3 rfl) ?_
    refine lv_iload_n hx hb dX2_inWorlds_9 rfl (lv_at hl 1 rfl) ?_
    refine lv_icmp_gt (tgt := 48) hx hb dX2_inWorlds_10 (by decide) (fun c10 => ?_) (fun c10 => ?_)
    · have hf := if_t c10 hf
      refine lv_aload_n hx hb dX2_inWorlds_48 rfl (lv_at hl 0 rfl) ?_
      refine lv_iload_n hx hb dX2_inWorlds_49 rfl (lv_at hl 1 rfl) ?_
      obtain ⟨q50, h50, hf⟩ := bind_some hf
      refine krX2_61_X2_valueOf F K E hA Z h50 ⟨Nat.le_of_ble_eq_true rfl, Nat.le_of_ble_eq_true rfl⟩ hl.1 (Nat.le_of_ble_eq_true rfl) dX2_inWorlds_50 (fun H locs Z => ?_)
      have hf := Option.some.inj hf
      subst hf
      exact ret_l F hr hk Z dX2_inWorlds_53
    have hf := if_f c10 hf
    refine lv_iload_n hx hb dX2_inWorlds_13 rfl (lv_at hl 3 rfl) ?_
    refine lv_sipush (v := 2000) hx hb dX2_inWorlds_14 (by decide) ?_
    refine lv_icmp_ge (tgt := 48) hx hb dX2_inWorlds_17 (by decide) (fun c17 => ?_) (fun c17 => ?_)
    · have hf := if_t c17 hf
      refine lv_aload_n hx hb dX2_inWorlds_48 rfl (lv_at hl 0 rfl) ?_
      refine lv_iload_n hx hb dX2_inWorlds_49 rfl (lv_at hl 1 rfl) ?_
      obtain ⟨q50, h50, hf⟩ := bind_some hf
      refine krX2_61_X2_valueOf F K E hA Z h50 ⟨Nat.le_of_ble_eq_true rfl, Nat.le_of_ble_eq_true rfl⟩ hl.1 (Nat.le_of_ble_eq_true rfl) dX2_inWorlds_50 (fun H locs Z => ?_)
      have hf := Option.some.inj hf
      subst hf
      exact ret_l F hr hk Z dX2_inWorlds_53
    have hf := if_f c17 hf
    refine lv_aload_n hx hb dX2_inWorlds_20 rfl (lv_at hl 0 rfl) ?_
    refine grX2_9_55 F K Z dX2_inWorlds_21 ?_
    refine lv_iload_n hx hb dX2_inWorlds_24 rfl (lv_at hl 3 rfl) ?_
    obtain ⟨i25, hf⟩ := if_some hf
    refine al56 F K Z i25 dX2_inWorlds_25 ?_
    refine lv_iconst (v := 1) hx hb dX2_inWorlds_26 (by decide) ?_
    refine lv_icmp_ne (tgt := 42) hx hb dX2_inWorlds_27 (by decide) (fun c27 => ?_) (fun c27 => ?_)
    · have hf := if_f c27 hf
      refine lv_iinc (v := (x3 + (1 : Int32))) (lv' := [(3, .int (x3 + (1 : Int32))), (0, .ref (ad 55)), (1, .int x1), (2, .ref (ad 58))]) hx hb dX2_inWorlds_42 hl (k := 3) rfl (congrArg (fun z => x3 + z) (by decide)) (by decide) rfl (fun ls hl => ?_)
      refine lv_goto (tgt := 8) hx hb dX2_inWorlds_45 (by decide) ?_
      exact ih _ _ _ hf _ _ _ Z (lv_sub hl [1, 2, 3, 0] rfl)
    have hf := if_t c27 hf
    refine lv_aload_n hx hb dX2_inWorlds_30 rfl (lv_at hl 0 rfl) ?_
    refine grX2_15_55 F K Z dX2_inWorlds_31 ?_
    refine lv_iload_n hx hb dX2_inWorlds_34 rfl (lv_at hl 3 rfl) ?_
    refine lv_aload_n hx hb dX2_inWorlds_35 rfl (lv_at hl 0 rfl) ?_
    refine lv_iload_n hx hb dX2_inWorlds_36 rfl (lv_at hl 3 rfl) ?_
    refine lv_aload_n hx hb dX2_inWorlds_37 rfl (lv_at hl 2 rfl) ?_
    obtain ⟨q38, h38, hf⟩ := bind_some hf
    refine krX2_79_X2_valueIn_58 F K E hA Z h38 ⟨Nat.le_of_ble_eq_true rfl, Nat.le_of_ble_eq_true rfl⟩ hl.1 (Nat.le_of_ble_eq_true rfl) dX2_inWorlds_38 (fun H locs Z => ?_)
    obtain ⟨i41, hf⟩ := if_some hf
    refine as57 F K Z i41 dX2_inWorlds_41 (fun H locs Z => ?_)
    refine lv_iinc (v := (x3 + (1 : Int32))) (lv' := [(3, .int (x3 + (1 : Int32))), (0, .ref (ad 55)), (1, .int x1), (2, .ref (ad 58))]) hx hb dX2_inWorlds_42 hl (k := 3) rfl (congrArg (fun z => x3 + z) (by decide)) (by decide) rfl (fun ls hl => ?_)
    refine lv_goto (tgt := 8) hx hb dX2_inWorlds_45 (by decide) ?_
    exact ih _ _ _ hf _ _ _ Z (lv_sub hl [1, 2, 3, 0] rfl)
set_option maxRecDepth 100000 in
set_option maxHeartbeats 4000000 in
theorem c_X2_inWorlds_58 {l : Launch} {D : va_G} {ad : Nat → Nat} {cy : Nat → ClassId} {ee : EE} {n : Nat} {st : StT} {x1 : Int32} {res : (Int64 × StT)} (hf : f_X2_inWorlds_58 n st x1 = some res) : CT l yX2_inWorlds cX2_inWorlds 4 (some .long) 4 89 D cy ee (wC ad cy st) (wC ad cy res.2) [.ref (ad 55), .int x1, .ref (ad 58)] (some (.long res.1)) := by
  refine CT.of (by decide +kernel) (Nat.le_of_ble_eq_true rfl) ?_
  intro p e s m args below meth c A F hr hk K E hA Z ls hl
  have hl : lv_has ls 4 [(0, .ref (ad 55)), (1, .int x1), (2, .ref (ad 58))] := hl
  have hx := F.1
  have hb := F.2.1
  unfold f_X2_inWorlds_58 at hf
  refine lv_aload_n hx hb dX2_inWorlds_0 rfl (lv_at hl 0 rfl) ?_
  refine lv_iload_n hx hb dX2_inWorlds_1 rfl (lv_at hl 1 rfl) ?_
  obtain ⟨q2, h2, hf⟩ := bind_some hf
  refine krX2_49_X2_markAll F K E hA Z h2 ⟨Nat.le_of_ble_eq_true rfl, Nat.le_of_ble_eq_true rfl⟩ hl.1 (Nat.le_of_ble_eq_true rfl) dX2_inWorlds_2 (fun H locs Z => ?_)
  refine lv_pop hx hb dX2_inWorlds_5 rfl ?_
  refine lv_iconst (v := 0) hx hb dX2_inWorlds_6 (by decide) ?_
  refine lv_istore_n (lv' := [(3, .int (0 : Int32)), (0, .ref (ad 55)), (1, .int x1), (2, .ref (ad 58))]) hx hb dX2_inWorlds_7 rfl hl (by decide) rfl (fun ls hl => ?_)
  exact b_X2_inWorlds_58_8 F hr hk K E hA _ _ _ _ hf _ _ _ Z (lv_sub hl [1, 2, 3, 0] rfl)
