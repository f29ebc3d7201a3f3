def f_X10_latestByte (n : Nat) (st : StT) (x1 : Int32) : Option (Int32 × StT) := if x1 < 0 then (some ((-1 : Int32), st)) else (if (st.1 13) ≤ x1 then (some ((-1 : Int32), st)) else (if (8000 : Int32) ≤ x1 then (some ((-1 : Int32), st)) else (if inB x1 8000 = true then (some (((st.2.1 12 (x1).toNatClampNeg) &&& (255 : Int32)), st)) else none)))
theorem wd501 : Cond.laysFinal RX10 "WorldProver$Writer" "formulas" "LWorldProver$Formulas;" ∈ Gw := gT1 (List.mem_of_getElem? (i := 187) rfl) rfl
theorem wd502 : Cond.lays RX10 "WorldProver$Writer" "latest" "[B" ∈ Gw := gT1 (List.mem_of_getElem? (i := 189) rfl) rfl
theorem wd503 : Cond.lays RX10 "WorldProver$Writer" "draft" "[B" ∈ Gw := gT1 (List.mem_of_getElem? (i := 191) rfl) rfl
theorem wd504 : Cond.lays RX10 "WorldProver$Writer" "latestMany" "I" ∈ Gw := gT1 (List.mem_of_getElem? (i := 193) rfl) rfl
theorem wd505 : Cond.lays RX10 "WorldProver$Writer" "many" "I" ∈ Gw := gT1 (List.mem_of_getElem? (i := 195) rfl) rfl
theorem wd506 : Cond.laysFinal RX10 "WorldProver$Writer" "formulaPath" "[I" ∈ Gw := gT1 (List.mem_of_getElem? (i := 197) rfl) rfl
theorem wd507 : Cond.laysFinal RX10 "WorldProver$Writer" "termPath" "[I" ∈ Gw := gT1 (List.mem_of_getElem? (i := 199) rfl) rfl
theorem wd508 : Cond.lays RX10 "WorldProver$Writer" "around" "I" ∈ Gw := gT1 (List.mem_of_getElem? (i := 201) rfl) rfl
theorem wd509 : Cond.fieldLink RX10 29 "WorldProver$Writer" "latestMany" "I" ∈ Gw := gT1 (List.mem_of_getElem? (i := 182) rfl) rfl
theorem wd510 : Cond.fieldLink RX10 9 "WorldProver$Writer" "latest" "[B" ∈ Gw := gT1 (List.mem_of_getElem? (i := 180) rfl) rfl
theorem inG_X10 : ∀ w ∈ u_ws RX10 TX10 8, w ∈ Gw := by
  intro w h
  obtain ⟨k, hk, rfl⟩ := List.mem_map.mp h
  have hk := List.mem_range.mp hk
  by_cases h0 : k = 0
  · subst h0; exact wd501
  by_cases h1 : k = 1
  · subst h1; exact wd502
  by_cases h2 : k = 2
  · subst h2; exact wd503
  by_cases h3 : k = 3
  · subst h3; exact wd504
  by_cases h4 : k = 4
  · subst h4; exact wd505
  by_cases h5 : k = 5
  · subst h5; exact wd506
  by_cases h6 : k = 6
  · subst h6; exact wd507
  by_cases h7 : k = 7
  · subst h7; exact wd508
  omega
section
variable {p : Program} {l : Launch} {e : Env} {R : Room} {s : State} {m : MethodId} {args : Array Value} {below : List Frame} {meth : Method} {c : Code} {H : Heap} {locs : List Loc} {Q : State → Prop}
variable {cc : ByteArray} {nL pc : Nat} {ls : Array Slot} {rest : List Value} {D : va_G} {A : Nat → Prop} {cw : Cond} {ad : Nat → Nat} {cy : Nat → ClassId} {ee : EE} {st : StT} {own : String}
theorem grX10_29_18 (F : CallFix p m c cc nL s args (cw :: Gw) RX10) (K : va_K D vwCl (tyL cy) s) (Z : ZG D (wC ad cy st) A s H locs) (hd : decode cc pc = .ok (.getfield 29, 3)) (kk : W p l e R s m args below meth c H locs 0 0 Q (F0 m (pc + 3) ls (.int (st.1 13) :: rest))) : W p l e R s m args below meth c H locs 0 0 Q (F0 m pc ls (.ref (ad 18) :: rest)) :=
  va_get (D := D) (ci := 10) (C := RX10) (T := TX10) (N := 8) F.1 F.2.1 F.2.2.2.2 (fun w h => List.mem_cons_of_mem _ (inG_X10 w h)) F.2.2.2.1 K Z.1 18 rfl rfl 3 (by decide) (F.2.2.2.2 _ (List.mem_cons_of_mem _ wd509)) (fun _ h => h) rfl hd kk
theorem grX10_9_18 (F : CallFix p m c cc nL s args (cw :: Gw) RX10) (K : va_K D vwCl (tyL cy) s) (Z : ZG D (wC ad cy st) A s H locs) (hd : decode cc pc = .ok (.getfield 9, 3)) (kk : W p l e R s m args below meth c H locs 0 0 Q (F0 m (pc + 3) ls (.ref (swL ad st) :: rest))) : W p l e R s m args below meth c H locs 0 0 Q (F0 m pc ls (.ref (ad 18) :: rest)) :=
  va_get (D := D) (ci := 10) (C := RX10) (T := TX10) (N := 8) F.1 F.2.1 F.2.2.2.2 (fun w h => List.mem_cons_of_mem _ (inG_X10 w h)) F.2.2.2.1 K Z.1 18 rfl rfl 1 (by decide) (F.2.2.2.2 _ (List.mem_cons_of_mem _ wd510)) (fun _ h => h) rfl hd kk
theorem an19 (F : CallFix p m c cc nL s args (cw :: Gw) own) (K : va_K D vwCl (tyL cy) s) (Z : ZG D (wC ad cy st) A s H locs) (hd : decode cc pc = .ok (.arraylength, 1)) (kk : W p l e R s m args below meth c H locs 0 0 Q (F0 m (pc + 1) ls (.int 8000 :: rest))) : W p l e R s m args below meth c H locs 0 0 Q (F0 m pc ls (.ref (swL ad st) :: rest)) :=
  va_alen F.1 F.2.1 K Z.1 19 0 rfl rfl (show Int32.ofNat 8000 = 8000 by decide) hd kk
theorem al19 {i : Int32} (F : CallFix p m c cc nL s args (cw :: Gw) own) (K : va_K D vwCl (tyL cy) s) (Z : ZG D (wC ad cy st) A s H locs) (hi : inB i 8000 = true) (hd : decode cc pc = .ok (.baload, 1)) (kk : W p l e R s m args below meth c H locs 0 0 Q (F0 m (pc + 1) ls (.int (st.2.1 12 i.toNatClampNeg) :: rest))) : W p l e R s m args below meth c H locs 0 0 Q (F0 m pc ls (.int i :: .ref (swL ad st) :: rest)) :=
  va_bald F.1 F.2.1 K Z.1 19 0 rfl rfl (inB_vp hi) hd kk
end
set_option maxRecDepth 100000 in
set_option maxHeartbeats 4000000 in
theorem c_X10_latestByte {l : Launch} {D : va_G} {ad : Nat → Nat} {cy : Nat → ClassId} {ee : EE} {n : Nat} {st : StT} {x1 : Int32} {res : (Int32 × StT)} (hf : f_X10_latestByte n st x1 = some res) : CT l yX10_latestByte cX10_latestByte 2 (some .int) 0 0 D cy ee (wC ad cy st) (wC ad cy res.2) [.ref (ad 18), .int x1] (some (.int res.1)) := by
  refine CT.of (by decide +kernel) (Nat.le_of_ble_eq_true rfl) ?_
  intro p e s m args below meth c A F hr hk K E hA Z ls hl
  have hl : lv_has ls 2 [(0, .ref (ad 18)), (1, .int x1)] := hl
  have hx := F.1
  have hb := F.2.1
  unfold f_X10_latestByte at hf
  refine lv_iload_n hx hb dX10_latestByte_0 rfl (lv_at hl 1 rfl) ?_
  refine lv_if_lt (tgt := 34) hx hb dX10_latestByte_1 (by decide) (fun c1 => ?_) (fun c1 => ?_)
  · have hf := if_t c1 hf
    refine lv_iconst (v := -1) hx hb dX10_latestByte_34 (by decide) ?_
    have hf := Option.some.inj hf
    subst hf
    exact ret_i F hr hk Z dX10_latestByte_35
  have hf := if_f c1 hf
  refine lv_iload_n hx hb dX10_latestByte_4 rfl (lv_at hl 1 rfl) ?_
  refine lv_aload_n hx hb dX10_latestByte_5 rfl (lv_at hl 0 rfl) ?_
  refine grX10_29_18 F K Z dX10_latestByte_6 ?_
  refine lv_icmp_ge (tgt := 34) hx hb dX10_latestByte_9 (by decide) (fun c9 => ?_) (fun c9 => ?_)
  · have hf := if_t c9 hf
    refine lv_iconst (v := -1) hx hb dX10_latestByte_34 (by decide) ?_
    have hf := Option.some.inj hf
    subst hf
    exact ret_i F hr hk Z dX10_latestByte_35
  have hf := if_f c9 hf
  refine lv_iload_n hx hb dX10_latestByte_12 rfl (lv_at hl 1 rfl) ?_
  refine lv_aload_n hx hb dX10_latestByte_13 rfl (lv_at hl 0 rfl) ?_
  refine grX10_9_18 F K Z dX10_latestByte_14 ?_
  refine an19 F K Z dX10_latestByte_17 ?_
  refine lv_icmp_ge (tgt := 34) hx hb dX10_latestByte_18 (by decide) (fun c18 => ?_) (fun c18 => ?_)
  · have hf := if_t c18 hf
    refine lv_iconst (v := -1) hx hb dX10_latestByte_34 (by decide) ?_
    have hf := Option.some.inj hf
    subst hf
    exact ret_i F hr hk Z dX10_latestByte_35
  have hf := if_f c18 hf
  refine lv_aload_n hx hb dX10_latestByte_21 rfl (lv_at hl 0 rfl) ?_
  refine grX10_9_18 F K Z dX10_latestByte_22 ?_
  refine lv_iload_n hx hb dX10_latestByte_25 rfl (lv_at hl 1 rfl) ?_
  obtain ⟨i26, hf⟩ := if_some hf
  refine al19 F K Z i26 dX10_latestByte_26 ?_
  refine lv_sipush (v := 255) hx hb dX10_latestByte_27 (by decide) ?_
  refine lv_iand hx hb dX10_latestByte_30 ?_
  refine lv_goto (tgt := 35) hx hb dX10_latestByte_31 (by decide) ?_
  have hf := Option.some.inj hf
  subst hf
  exact ret_i F hr hk Z dX10_latestByte_35
def f_X10_overflows (n : Nat) (st : StT) : Option (Int32 × StT) := if (st.1 14) ≤ (8000 : Int32) then (some ((0 : Int32), st)) else (some ((1 : Int32), st))
theorem wd511 : Cond.fieldLink RX10 33 "WorldProver$Writer" "many" "I" ∈ Gw := gT1 (List.mem_of_getElem? (i := 183) rfl) rfl
section
variable {p : Program} {l : Launch} {e : Env} {R : Room} {s : State} {m : MethodId} {args : Array Value} {below : List Frame} {meth : Method} {c : Code} {H : Heap} {locs : List Loc} {Q : State → Prop}
variable {cc : ByteArray} {nL pc : Nat} {ls : Array Slot} {rest : List Value} {D : va_G} {A : Nat → Prop} {cw : Cond} {ad : Nat → Nat} {cy : Nat → ClassId} {ee : EE} {st : StT} {own : String}
theorem grX10_33_18 (F : CallFix p m c cc nL s args (cw :: Gw) RX10) (K : va_K D vwCl (tyL cy) s) (Z : ZG D (wC ad cy st) A s H locs) (hd : decode cc pc = .ok (.getfield 33, 3)) (kk : W p l e R s m args below meth c H locs 0 0 Q (F0 m (pc + 3) ls (.int (st.1 14) :: rest))) : W p l e R s m args below meth c H locs 0 0 Q (F0 m pc ls (.ref (ad 18) :: rest)) :=
  va_get (D := D) (ci := 10) (C := RX10) (T := TX10) (N := 8) F.1 F.2.1 F.2.2.2.2 (fun w h => List.mem_cons_of_mem _ (inG_X10 w h)) F.2.2.2.1 K Z.1 18 rfl rfl 4 (by decide) (F.2.2.2.2 _ (List.mem_cons_of_mem _ wd511)) (fun _ h => h) rfl hd kk
end
set_option maxRecDepth 100000 in
set_option maxHeartbeats 4000000 in
theorem c_X10_overflows {l : Launch} {D : va_G} {ad : Nat → Nat} {cy : Nat → ClassId} {ee : EE} {n : Nat} {st : StT} {res : (Int32 × StT)} (hf : f_X10_overflows n st = some res) : CT l yX10_overflows cX10_overflows 1 (some .boolean) 0 0 D cy ee (wC ad cy st) (wC ad cy res.2) [.ref (ad 18)] (some (.int res.1)) := by
  refine CT.of (by decide +kernel) (Nat.le_of_ble_eq_true rfl) ?_
  intro p e s m args below meth c A F hr hk K E hA Z ls hl
  have hl : lv_has ls 1 [(0, .ref (ad 18))] := hl
  have hx := F.1
  have hb := F.2.1
  unfold f_X10_overflows at hf
  refine lv_aload_n hx hb dX10_overflows_0 rfl (lv_at hl 0 rfl) ?_
  refine grX10_33_18 F K Z dX10_overflows_1 ?_
  refine lv_sipush (v := 8000) hx hb dX10_overflows_4 (by decide) ?_
  refine lv_icmp_le (tgt := 14) hx hb dX10_overflows_7 (by decide) (fun c7 => ?_) (fun c7 => ?_)
  · have hf := if_t c7 hf
    refine lv_iconst (v := 0) hx hb dX10_overflows_14 (by decide) ?_
    have hf := Option.some.inj hf
    subst hf
    exact ret_z F hr hk Z rfl dX10_overflows_15
  have hf := if_f c7 hf
  refine lv_iconst (v := 1) hx hb dX10_overflows_10 (by decide) ?_
  refine lv_goto (tgt := 15) hx hb dX10_overflows_11 (by decide) ?_
  have hf := Option.some.inj hf
  subst hf
  exact ret_z F hr hk Z rfl dX10_overflows_15
def f_X10_put_30 (n : Nat) (st : StT) : Option StT := some (uF st 14 (if (8001 : Int32) < ((st.1 14) + (1 : Int32)) then (8001 : Int32) else ((st.1 14) + (1 : Int32))))
def f_X10_put (n : Nat) (st : StT) (x1 : Int32) : Option StT := if (st.1 14) < 0 then (f_X10_put_30 n st) else (if (8000 : Int32) ≤ (st.1 14) then (f_X10_put_30 n st) else (if inB (st.1 14) 8000 = true then (f_X10_put_30 n (uA st 13 (st.1 14) (vp_nar .byte x1.toInt8.toInt32))) else none))
theorem wd512 : Cond.fieldLink RX10 15 "WorldProver$Writer" "draft" "[B" ∈ Gw := gT1 (List.mem_of_getElem? (i := 181) rfl) rfl
theorem wd513 : Cond.methodLink RX10 55 yJ9_min_7cf53 ∈ Gw := gT3 (List.mem_of_getElem? (i := 236) rfl) rfl
section
variable {p : Program} {l : Launch} {e : Env} {R : Room} {s : State} {m : MethodId} {args : Array Value} {below : List Frame} {meth : Method} {c : Code} {H : Heap} {locs : List Loc} {Q : State → Prop}
variable {cc : ByteArray} {nL pc : Nat} {ls : Array Slot} {rest : List Value} {D : va_G} {A : Nat → Prop} {cw : Cond} {ad : Nat → Nat} {cy : Nat → ClassId} {ee : EE} {st : StT} {own : String}
theorem grX10_15_18 (F : CallFix p m c cc nL s args (cw :: Gw) RX10) (K : va_K D vwCl (tyL cy) s) (Z : ZG D (wC ad cy st) A s H locs) (hd : decode cc pc = .ok (.getfield 15, 3)) (kk : W p l e R s m args below meth c H locs 0 0 Q (F0 m (pc + 3) ls (.ref (swD ad st) :: rest))) : W p l e R s m args below meth c H locs 0 0 Q (F0 m pc ls (.ref (ad 18) :: rest)) :=
  va_get (D := D) (ci := 10) (C := RX10) (T := TX10) (N := 8) F.1 F.2.1 F.2.2.2.2 (fun w h => List.mem_cons_of_mem _ (inG_X10 w h)) F.2.2.2.1 K Z.1 18 rfl rfl 2 (by decide) (F.2.2.2.2 _ (List.mem_cons_of_mem _ wd512)) (fun _ h => h) rfl hd kk
theorem an20 (F : CallFix p m c cc nL s args (cw :: Gw) own) (K : va_K D vwCl (tyL cy) s) (Z : ZG D (wC ad cy st) A s H locs) (hd : decode cc pc = .ok (.arraylength, 1)) (kk : W p l e R s m args below meth c H locs 0 0 Q (F0 m (pc + 1) ls (.int 8000 :: rest))) : W p l e R s m args below meth c H locs 0 0 Q (F0 m pc ls (.ref (swD ad st) :: rest)) :=
  va_alen F.1 F.2.1 K Z.1 20 0 rfl rfl (show Int32.ofNat 8000 = 8000 by decide) hd kk
theorem as20 {i : Int32} {v : Int32} (F : CallFix p m c cc nL s args (cw :: Gw) own) (K : va_K D vwCl (tyL cy) s) (Z : ZG D (wC ad cy st) A s H locs) (hi : inB i 8000 = true) (hd : decode cc pc = .ok (.bastore, 1)) (kk : ∀ (H1 : Heap) (locs1 : List Loc), ZG D (wC ad cy (uA st 13 i (vp_nar .byte v))) A s H1 locs1 → W p l e R s m args below meth c H1 locs1 0 0 Q (F0 m (pc + 1) ls rest)) : W p l e R s m args below meth c H locs 0 0 Q (F0 m pc ls (.int v :: .int i :: .ref (swD ad st) :: rest)) :=
  va_bast F.1 F.2.1 K Z.1 Z.2.1 Z.2.2 20 0 rfl rfl (inB_vp hi) hd (fun H1 locs1 hP hD hS => kk H1 locs1 ⟨hP, hD, hS⟩)
theorem prX10_33_18 {v : Int32} (F : CallFix p m c cc nL s args (cw :: Gw) RX10) (K : va_K D vwCl (tyL cy) s) (Z : ZG D (wC ad cy st) A s H locs) (hd : decode cc pc = .ok (.putfield 33, 3)) (kk : ∀ (H1 : Heap) (locs1 : List Loc), ZG D (wC ad cy (uF st 14 v)) A s H1 locs1 → W p l e R s m args below meth c H1 locs1 0 0 Q (F0 m (pc + 3) ls rest)) : W p l e R s m args below meth c H locs 0 0 Q (F0 m pc ls (.int v :: .ref (ad 18) :: rest)) :=
  va_put (D := D) (ci := 10) (v := .int v) (ty := .int) (C := RX10) (T := TX10) (N := 8) F.1 F.2.1 F.2.2.2.2 (fun w h => List.mem_cons_of_mem _ (inG_X10 w h)) tyX10 tyX10_ok nmX10 F.2.2.2.1 K Z.1 Z.2.1 Z.2.2 18 rfl rfl 4 (by decide) (F.2.2.2.2 _ (List.mem_cons_of_mem _ wd511)) (fun _ h => h) rfl (by decide +kernel) rfl rfl (Nat.le_of_ble_eq_true rfl) hd (fun H1 locs1 hP hD hS => kk H1 locs1 ⟨hP, hD, hS⟩)
end
set_option maxRecDepth 100000 in
set_option maxHeartbeats 4000000 in
theorem b_X10_put_30 {p : Program} {l : Launch} {e : Env} {s : State} {m : MethodId} {args : Array Value} {below : List Frame} {meth : Method} {c : Code} {D : va_G} {A : Nat → Prop} {ad : Nat → Nat} {cy : Nat → ClassId} {ee : EE} {n : Nat} {res : StT} (F : CallFix p m c cX10_put 2 s args (Cond.code yX10_put cX10_put 2 none :: Gw) yX10_put.cls) (hr : meth.sig.returnType = none) (hk : meth.locks = false) (K : va_K D vwCl (tyL cy) s) (E : EV ee A s s.heap) (hA : ∀ q, s.heap.size ≤ q → A q) : ∀ (st : StT), f_X10_put_30 n st = some res → ∀ (H : Heap) (locs : List Loc) (ls : Array Slot), ZG D (wC ad cy st) A s H locs → lv_has ls 2 [(0, .ref (ad 18))] → W p l e { frames := 1, cells := 0, slots := 0, locals := 21 } s m args below meth c H locs 0 0 (MQ below (QC D (none) (wC ad cy res) A) args s 0 0 A) (F0 m 30 ls []) := by
  have hx := F.1
  have hb := F.2.1
  intro st hf H locs ls Z hl
  unfold f_X10_put_30 at hf
  refine lv_aload_n hx hb dX10_put_30 rfl (lv_at hl 0 rfl) ?_
  refine lv_aload_n hx hb dX10_put_31 rfl (lv_at hl 0 rfl) ?_
  refine grX10_33_18 F K Z dX10_put_32 ?_
  refine lv_iconst (v := 1) hx hb dX10_put_35 (by decide) ?_
  refine lv_iadd hx hb dX10_put_36 ?_
  refine lv_sipush (v := 8001) hx hb dX10_put_37 (by decide) ?_
  refine mth_min F (F.2.2.2.2 _ (List.mem_cons_of_mem _ wd513)) hl.1 (Nat.le_of_ble_eq_true rfl) (Nat.le_of_ble_eq_true rfl) dX10_put_40 ?_
  refine prX10_33_18 F K Z dX10_put_43 (fun H locs Z => ?_)
  have hf := Option.some.inj hf
  subst hf
  exact ret_v F hr hk Z dX10_put_46
set_option maxRecDepth 100000 in
set_option maxHeartbeats 4000000 in
theorem c_X10_put {l : Launch} {D : va_G} {ad : Nat → Nat} {cy : Nat → ClassId} {ee : EE} {n : Nat} {st : StT} {x1 : Int32} {res : StT} (hf : f_X10_put n st x1 = some res) : CT l yX10_put cX10_put 2 none 1 21 D cy ee (wC ad cy st) (wC ad cy res) [.ref (ad 18), .int x1] (none) := by
  refine CT.of (by decide +kernel) (Nat.le_of_ble_eq_true rfl) ?_
  intro p e s m args below meth c A F hr hk K E hA Z ls hl
  have hl : lv_has ls 2 [(0, .ref (ad 18)), (1, .int x1)] := hl
  have hx := F.1
  have hb := F.2.1
  unfold f_X10_put at hf
  refine lv_aload_n hx hb dX10_put_0 rfl (lv_at hl 0 rfl) ?_
  refine grX10_33_18 F K Z dX10_put_1 ?_
  refine lv_if_lt (tgt := 30) hx hb dX10_put_4 (by decide) (fun c4 => ?_) (fun c4 => ?_)
  · have hf := if_t c4 hf
    exact b_X10_put_30 F hr hk K E hA _ hf _ _ _ Z (lv_sub hl [0] rfl)
  have hf := if_f c4 hf
  refine lv_aload_n hx hb dX10_put_7 rfl (lv_at hl 0 rfl) ?_
  refine grX10_33_18 F K Z dX10_put_8 ?_
  refine lv_aload_n hx hb dX10_put_11 rfl (lv_at hl 0 rfl) ?_
  refine grX10_15_18 F K Z dX10_put_12 ?_
  refine an20 F K Z dX10_put_15 ?_
  refine lv_icmp_ge (tgt := 30) hx hb dX10_put_16 (by decide) (fun c16 => ?_) (fun c16 => ?_)
  · have hf := if_t c16 hf
    exact b_X10_put_30 F hr hk K E hA _ hf _ _ _ Z (lv_sub hl [0] rfl)
  have hf := if_f c16 hf
  refine lv_aload_n hx hb dX10_put_19 rfl (lv_at hl 0 rfl) ?_
  refine grX10_15_18 F K Z dX10_put_20 ?_
  refine lv_aload_n hx hb dX10_put_23 rfl (lv_at hl 0 rfl) ?_
  refine grX10_33_18 F K Z dX10_put_24 ?_
  refine lv_iload_n hx hb dX10_put_27 rfl (lv_at hl 1 rfl) ?_
  refine lv_i2b hx hb dX10_put_28 rfl ?_
  obtain ⟨i29, hf⟩ := if_some hf
  refine as20 F K Z i29 dX10_put_29 (fun H locs Z => ?_)
  exact b_X10_put_30 F hr hk K E hA _ hf _ _ _ Z (lv_sub hl [0] rfl)
def f_X10_putNumber_17 (n : Nat) (k3 : StT → Int32 → Int32 → Option StT) (st : StT) (x1 : Int32) (x2 : Int32) : Option StT := if x2 = 0 then none else ((f_X10_put n st ((48 : Int32) + ((x1 / x2) - (x1 / x2) / (10 : Int32) * (10 : Int32)))).bind fun q27 => (k3 q27 x1 (x2 / (10 : Int32))))
def f_X10_putNumber_3 (n : Nat) : Nat → StT → Int32 → Int32 → Option StT
  | 0, _, _, _ => none
  | k + 1, st, x1, x2 => if x2 ≤ 0 then (some st) else (if x2 = (1 : Int32) then (f_X10_putNumber_17 n (f_X10_putNumber_3 n k) st x1 x2) else (if x1 < x2 then (f_X10_putNumber_3 n k st x1 (x2 / (10 : Int32))) else (f_X10_putNumber_17 n (f_X10_putNumber_3 n k) st x1 x2)))
def f_X10_putNumber (n : Nat) (st : StT) (x1 : Int32) : Option StT := f_X10_putNumber_3 n n st x1 (1000000000 : Int32)
theorem wd514 : Cond.constant RX10 73 (1000000000) ∈ Gw := gT5 (List.mem_of_getElem? (i := 38) rfl) rfl
theorem wd515 : Cond.methodLink RX10 70 yX10_put ∈ Gw := gT3 (List.mem_of_getElem? (i := 232) rfl) rfl
theorem wd516 : Cond.code yX10_put prog_12_method_7_code 2 none ∈ Gw := gT3 (List.mem_of_getElem? (i := 235) rfl) rfl
theorem wd517 : Cond.instanceMethod yX10_put ∈ Gw := gT3 (List.mem_of_getElem? (i := 234) rfl) rfl
theorem wd518 : Cond.selects RX10 yX10_put yX10_put ∈ Gw := gP2 (q := (yX10_put, 8)) (List.mem_of_getElem? (i := 6) rfl)
theorem wd519 : Cond.initialized RX10 ∈ Gw := gT1 (List.mem_of_getElem? (i := 7) rfl) rfl
section
variable {p : Program} {l : Launch} {e : Env} {R : Room} {s : State} {m : MethodId} {args : Array Value} {below : List Frame} {meth : Method} {c : Code} {H : Heap} {locs : List Loc} {Q : State → Prop}
variable {cc : ByteArray} {nL pc : Nat} {ls : Array Slot} {rest : List Value} {D : va_G} {A : Nat → Prop} {cw : Cond} {ad : Nat → Nat} {cy : Nat → ClassId} {ee : EE} {st : StT} {own : String}
theorem krX10_70_X10_put {n : Nat} {a0 : Int32} {q : StT} (F : CallFix p m c cc nL s args (cw :: Gw) RX10) (K : va_K D vwCl (tyL cy) s) (E : EV ee A s s.heap) (hA : ∀ q, s.heap.size ≤ q → A q) (Z : ZG D (wC ad cy st) A s H locs) (hf : f_X10_put n st a0 = some q) (hR : 2 ≤ R.frames ∧ 42 ≤ R.locals) (hl : ls.size = nL) (hst : (rest.map fun v => v.category).sum ≤ 8) (hd : decode cc pc = .ok (.invokevirtual 70, 3)) (kk : ∀ (H1 : Heap) (locs1 : List Loc), ZG D (wC ad cy q) A s H1 locs1 → W p l e R s m args below meth c H1 locs1 0 0 Q (F0 m (pc + 3) ls (rest))) : W p l e R s m args below meth c H locs 0 0 Q (F0 m pc ls (.int a0 :: .ref (ad 18) :: rest)) :=
  call_V (q := (RX10, TX10, 8)) (n := 1) (As := [.int a0]) (rv := none) 18 10 F K E hA Z (c_X10_put (l := l) (D := D) (ad := ad) (cy := cy) (ee := ee) hf) ⟨wd516, wd515, wd517, wd518, wd519⟩ (by decide +kernel) rfl rfl hR rfl hl hst hd kk
end
set_option maxRecDepth 100000 in
set_option maxHeartbeats 4000000 in
theorem b_X10_putNumber_17 {p : Program} {l : Launch} {e : Env} {s : State} {m : MethodId} {args : Array Value} {below : List Frame} {meth : Method} {c : Code} {D : va_G} {A : Nat → Prop} {ad : Nat → Nat} {cy : Nat → ClassId} {ee : EE} {n : Nat} {res : StT} (F : CallFix p m c cX10_putNumber 3 s args (Cond.code yX10_putNumber cX10_putNumber 3 none :: Gw) yX10_putNumber.cls) (hr : meth.sig.returnType = none) (hk : meth.locks = false) (K : va_K D vwCl (tyL cy) s) (E : EV ee A s s.heap) (hA : ∀ q, s.heap.size ≤ q → A q) {k3 : StT → Int32 → Int32 → Option StT} (hk3 : ∀ (st : StT) (x1 : Int32) (x2 : Int32), k3 st x1 x2 = some res → ∀ (H : Heap) (locs : List Loc) (ls : Array Slot), ZG D (wC ad cy st) A s H locs → lv_has ls 3 [(0, .ref (ad 18)), (1, .int x1), (2, .int x2)] → W p l e { frames := 2, cells := 0, slots := 0, locals := 42 } s m args below meth c H locs 0 0 (MQ below (QC D (none) (wC ad cy res) A) args s 0 0 A) (F0 m 3 ls [])) : ∀ (st : StT) (x1 : Int32) (x2 : Int32), f_X10_putNumber_17 n k3 st x1 x2 = some res → ∀ (H : Heap) (locs : List Loc) (ls : Array Slot), ZG D (wC ad cy st) A s H locs → lv_has ls 3 [(0, .ref (ad 18)), (1, .int x1), (2, .int x2)] → W p l e { frames := 2, cells := 0, slots := 0, locals := 42 } s m args below meth c H locs 0 0 (MQ below (QC D (none) (wC ad cy res) A) args s 0 0 A) (F0 m 17 ls []) := by
  have hx := F.1
  have hb := F.2.1
  intro st x1 x2 hf H locs ls Z hl
  unfold f_X10_putNumber_17 at hf
  refine lv_aload_n hx hb dX10_putNumber_17 rfl (lv_at hl 0 rfl) ?_
  refine lv_bipush (v := 48) hx hb dX10_putNumber_18 (by decide) ?_
  refine lv_iload_n hx hb dX10_putNumber_20 rfl (lv_at hl 1 rfl) ?_
  refine lv_iload_n hx hb dX10_putNumber_21 rfl (lv_at hl 2 rfl) ?_
  obtain ⟨c22, hf⟩ := if_no hf
  refine lv_idiv hx hb dX10_putNumber_22 c22 ?_
  refine lv_bipush (v := 10) hx hb dX10_putNumber_23 (by decide) ?_
  refine lv_irem hx hb dX10_putNumber_25 (by decide) ?_
  refine lv_iadd hx hb dX10_putNumber_26 ?_
  obtain ⟨q27, h27, hf⟩ := bind_some hf
  refine krX10_70_X10_put F K E hA Z h27 ⟨Nat.le_of_ble_eq_true rfl, Nat.le_of_ble_eq_true rfl⟩ hl.1 (Nat.le_of_ble_eq_true rfl) dX10_putNumber_27 (fun H locs Z => ?_)
  refine lv_iload_n hx hb dX10_putNumber_30 rfl (lv_at hl 2 rfl) ?_
  refine lv_bipush (v := 10) hx hb dX10_putNumber_31 (by decide) ?_
  refine lv_idiv hx hb dX10_putNumber_33 (by decide) ?_
  refine lv_istore_n (lv' := [(2, .int (x2 / (10 : Int32))), (0, .ref (ad 18)), (1, .int x1)]) hx hb dX10_putNumber_34 rfl hl (by decide) rfl (fun ls hl => ?_)
  refine lv_goto (tgt := 3) hx hb dX10_putNumber_35 (by decide) ?_
  exact hk3 _ _ _ hf _ _ _ Z (lv_sub hl [1, 2, 0] rfl)
set_option maxRecDepth 100000 in
set_option maxHeartbeats 4000000 in
theorem b_X10_putNumber_3 {p : Program} {l : Launch} {e : Env} {s : State} {m : MethodId} {args : Array Value} {below : List Frame} {meth : Method} {c : Code} {D : va_G} {A : Nat → Prop} {ad : Nat → Nat} {cy : Nat → ClassId} {ee : EE} {n : Nat} {res : StT} (F : CallFix p m c cX10_putNumber 3 s args (Cond.code yX10_putNumber cX10_putNumber 3 none :: Gw) yX10_putNumber.cls) (hr : meth.sig.returnType = none) (hk : meth.locks = false) (K : va_K D vwCl (tyL cy) s) (E : EV ee A s s.heap) (hA : ∀ q, s.heap.size ≤ q → A q) : ∀ (k : Nat) (st : StT) (x1 : Int32) (x2 : Int32), f_X10_putNumber_3 n k st x1 x2 = some res → ∀ (H : Heap) (locs : List Loc) (ls : Array Slot), ZG D (wC ad cy st) A s H locs → lv_has ls 3 [(0, .ref (ad 18)), (1, .int x1), (2, .int x2)] → W p l e { frames := 2, cells := 0, slots := 0, locals := 42 } s m args below meth c H locs 0 0 (MQ below (QC D (none) (wC ad cy res) A) args s 0 0 A) (F0 m 3 ls []) := by
  have hx := F.1
  have hb := F.2.1
  intro k
  induction k with
  | zero =>
    intro st x1 x2 hf
    exact absurd hf (by simp [f_X10_putNumber_3])
  | succ k ih =>
    intro st x1 x2 hf H locs ls Z hl
    rw [f_X10_putNumber_3] at hf
    refine lv_iload_n hx hb dX10_putNumber_3 rfl (lv_at hl 2 rfl) ?_
    refine lv_if_le (tgt := 38) hx hb dX10_putNumber_4 (by decide) (fun c4 => ?_) (fun c4 => ?_)
    · have hf := if_t c4 hf
      have hf := Option.some.inj hf
      subst hf
      exact ret_v F hr hk Z dX10_putNumber_38
    have hf := if_f c4 hf
    refine lv_iload_n hx hb dX10_putNumber_7 rfl (lv_at hl 2 rfl) ?_
    refine lv_iconst (v := 1) hx hb dX10_putNumber_8 (by decide) ?_
    refine lv_icmp_eq (tgt := 17) hx hb dX10_putNumber_9 (by decide) (fun c9 => ?_) (fun c9 => ?_)
    · have hf := if_t c9 hf
      exact b_X10_putNumber_17 F hr hk K E hA ih _ _ _ hf _ _ _ Z hl
    have hf := if_f c9 hf
    refine lv_iload_n hx hb dX10_putNumber_12 rfl (lv_at hl 1 rfl) ?_
    refine lv_iload_n hx hb dX10_putNumber_13 rfl (lv_at hl 2 rfl) ?_
    refine lv_icmp_lt (tgt := 30) hx hb dX10_putNumber_14 (by decide) (fun c14 => ?_) (fun c14 => ?_)
    · have hf := if_t c14 hf
      refine lv_iload_n hx hb dX10_putNumber_30 rfl (lv_at hl 2 rfl) ?_
      refine lv_bipush (v := 10) hx hb dX10_putNumber_31 (by decide) ?_
      refine lv_idiv hx hb dX10_putNumber_33 (by decide) ?_
      refine lv_istore_n (lv' := [(2, .int (x2 / (10 : Int32))), (0, .ref (ad 18)), (1, .int x1)]) hx hb dX10_putNumber_34 rfl hl (by decide) rfl (fun ls hl => ?_)
      refine lv_goto (tgt := 3) hx hb dX10_putNumber_35 (by decide) ?_
      exact ih _ _ _ hf _ _ _ Z (lv_sub hl [1, 2, 0] rfl)
    have hf := if_f c14 hf
    exact b_X10_putNumber_17 F hr hk K E hA ih _ _ _ hf _ _ _ Z hl
set_option maxRecDepth 100000 in
set_option maxHeartbeats 4000000 in
theorem c_X10_putNumber {l : Launch} {D : va_G} {ad : Nat → Nat} {cy : Nat → ClassId} {ee : EE} {n : Nat} {st : StT} {x1 : Int32} {res : StT} (hf : f_X10_putNumber n st x1 = some res) : CT l yX10_putNumber cX10_putNumber 3 none 2 42 D cy ee (wC ad cy st) (wC ad cy res) [.ref (ad 18), .int x1] (none) := by
  refine CT.of (by decide +kernel) (Nat.le_of_ble_eq_true rfl) ?_
  intro p e s m args below meth c A F hr hk K E hA Z ls hl
  have hl : lv_has ls 3 [(0, .ref (ad 18)), (1, .int x1)] := hl
  have hx := F.1
  have hb := F.2.1
  unfold f_X10_putNumber at hf
  refine lv_ldc (v := 1000000000) hx hb F.2.2.2.1 (F.2.2.2.2 _ (List.mem_cons_of_mem _ wd514)) dX10_putNumber_0 ?_
  refine lv_istore_n (lv' := [(2, .int (1000000000 : Int32)), (0, .ref (ad 18)), (1, .int x1)]) hx hb dX10_putNumber_2 rfl hl (by decide) rfl (fun ls hl => ?_)
  exact b_X10_putNumber_3 F hr hk K E hA _ _ _ _ hf _ _ _ Z (lv_sub hl [1, 2, 0] rfl)
def f_X10_begin_21 (n : Nat) (st : StT) (x1 : Int32) (x2 : Int32) : Option (Int32 × StT) := if x1 < 0 then (some (x1, st)) else (if (2000 : Int32) ≤ x1 then (some (x1, st)) else (if inB x1 2000 = true then (some (x1, (uA st 14 x1 (x2 <<< ((2 : Int32) &&& 31))))) else none))
theorem wd520 : Cond.fieldLink RX10 18 "WorldProver$Writer" "formulaPath" "[I" ∈ Gw := gT1 (List.mem_of_getElem? (i := 184) rfl) rfl
theorem wd521 : Cond.fieldLink RX10 25 "WorldProver$Writer" "formulas" "LWorldProver$Formulas;" ∈ Gw := gT1 (List.mem_of_getElem? (i := 179) rfl) rfl
section
variable {p : Program} {l : Launch} {e : Env} {R : Room} {s : State} {m : MethodId} {args : Array Value} {below : List Frame} {meth : Method} {c : Code} {H : Heap} {locs : List Loc} {Q : State → Prop}
variable {cc : ByteArray} {nL pc : Nat} {ls : Array Slot} {rest : List Value} {D : va_G} {A : Nat → Prop} {cw : Cond} {ad : Nat → Nat} {cy : Nat → ClassId} {ee : EE} {st : StT} {own : String}
theorem grX10_18_18 (F : CallFix p m c cc nL s args (cw :: Gw) RX10) (K : va_K D vwCl (tyL cy) s) (Z : ZG D (wC ad cy st) A s H locs) (hd : decode cc pc = .ok (.getfield 18, 3)) (kk : W p l e R s m args below meth c H locs 0 0 Q (F0 m (pc + 3) ls (.ref (ad 21) :: rest))) : W p l e R s m args below meth c H locs 0 0 Q (F0 m pc ls (.ref (ad 18) :: rest)) :=
  va_get (D := D) (ci := 10) (C := RX10) (T := TX10) (N := 8) F.1 F.2.1 F.2.2.2.2 (fun w h => List.mem_cons_of_mem _ (inG_X10 w h)) F.2.2.2.1 K Z.1 18 rfl rfl 5 (by decide) (F.2.2.2.2 _ (List.mem_cons_of_mem _ wd520)) (fun _ h => h) rfl hd kk
theorem al21 {i : Int32} (F : CallFix p m c cc nL s args (cw :: Gw) own) (K : va_K D vwCl (tyL cy) s) (Z : ZG D (wC ad cy st) A s H locs) (hi : inB i 2000 = true) (hd : decode cc pc = .ok (.iaload, 1)) (kk : W p l e R s m args below meth c H locs 0 0 Q (F0 m (pc + 1) ls (.int (st.2.1 14 i.toNatClampNeg) :: rest))) : W p l e R s m args below meth c H locs 0 0 Q (F0 m pc ls (.int i :: .ref (ad 21) :: rest)) :=
  va_iald F.1 F.2.1 K Z.1 21 1 rfl rfl (inB_vp hi) hd kk
theorem grX10_25_18 (F : CallFix p m c cc nL s args (cw :: Gw) RX10) (K : va_K D vwCl (tyL cy) s) (Z : ZG D (wC ad cy st) A s H locs) (hd : decode cc pc = .ok (.getfield 25, 3)) (kk : W p l e R s m args below meth c H locs 0 0 Q (F0 m (pc + 3) ls (.ref (ad 4) :: rest))) : W p l e R s m args below meth c H locs 0 0 Q (F0 m pc ls (.ref (ad 18) :: rest)) :=
  va_get (D := D) (ci := 10) (C := RX10) (T := TX10) (N := 8) F.1 F.2.1 F.2.2.2.2 (fun w h => List.mem_cons_of_mem _ (inG_X10 w h)) F.2.2.2.1 K Z.1 18 rfl rfl 0 (by decide) (F.2.2.2.2 _ (List.mem_cons_of_mem _ wd521)) (fun _ h => h) rfl hd kk
theorem as21 {i : Int32} {v : Int32} (F : CallFix p m c cc nL s args (cw :: Gw) own) (K : va_K D vwCl (tyL cy) s) (Z : ZG D (wC ad cy st) A s H locs) (hi : inB i 2000 = true) (hd : decode cc pc = .ok (.iastore, 1)) (kk : ∀ (H1 : Heap) (locs1 : List Loc), ZG D (wC ad cy (uA st 14 i v)) A s H1 locs1 → W p l e R s m args below meth c H1 locs1 0 0 Q (F0 m (pc + 1) ls rest)) : W p l e R s m args below meth c H locs 0 0 Q (F0 m pc ls (.int v :: .int i :: .ref (ad 21) :: rest)) :=
  va_iast F.1 F.2.1 K Z.1 Z.2.1 Z.2.2 21 1 rfl rfl (inB_vp hi) hd (fun H1 locs1 hP hD hS => kk H1 locs1 ⟨hP, hD, hS⟩)
theorem an21 (F : CallFix p m c cc nL s args (cw :: Gw) own) (K : va_K D vwCl (tyL cy) s) (Z : ZG D (wC ad cy st) A s H locs) (hd : decode cc pc = .ok (.arraylength, 1)) (kk : W p l e R s m args below meth c H locs 0 0 Q (F0 m (pc + 1) ls (.int 2000 :: rest))) : W p l e R s m args below meth c H locs 0 0 Q (F0 m pc ls (.ref (ad 21) :: rest)) :=
  va_alen F.1 F.2.1 K Z.1 21 1 rfl rfl (show Int32.ofNat 2000 = 2000 by decide) hd kk
end
set_option maxRecDepth 100000 in
set_option maxHeartbeats 4000000 in
theorem c_X10_begin_21 {l : Launch} {D : va_G} {ad : Nat → Nat} {cy : Nat → ClassId} {ee : EE} {n : Nat} {st : StT} {x1 : Int32} {x2 : Int32} {res : (Int32 × StT)} (hf : f_X10_begin_21 n st x1 x2 = some res) : CT l yX10_begin cX10_begin 3 (some .int) 0 0 D cy ee (wC ad cy st) (wC ad cy res.2) [.ref (ad 21), .int x1, .int x2] (some (.int res.1)) := by
  refine CT.of (by decide +kernel) (Nat.le_of_ble_eq_true rfl) ?_
  intro p e s m args below meth c A F hr hk K E hA Z ls hl
  have hl : lv_has ls 3 [(0, .ref (ad 21)), (1, .int x1), (2, .int x2)] := hl
  have hx := F.1
  have hb := F.2.1
  unfold f_X10_begin_21 at hf
  refine lv_iload_n hx hb dX10_begin_0 rfl (lv_at hl 1 rfl) ?_
  refine lv_if_lt (tgt := 16) hx hb dX10_begin_1 (by decide) (fun c1 => ?_) (fun c1 => ?_)
  · have hf := if_t c1 hf
    refine lv_iload_n hx hb dX10_begin_16 rfl (lv_at hl 1 rfl) ?_
    have hf := Option.some.inj hf
    subst hf
    exact ret_i F hr hk Z dX10_begin_17
  have hf := if_f c1 hf
  refine lv_iload_n hx hb dX10_begin_4 rfl (lv_at hl 1 rfl) ?_
  refine lv_aload_n hx hb dX10_begin_5 rfl (lv_at hl 0 rfl) ?_
  refine an21 F K Z dX10_begin_6 ?_
  refine lv_icmp_ge (tgt := 16) hx hb dX10_begin_7 (by decide) (fun c7 => ?_) (fun c7 => ?_)
  · have hf := if_t c7 hf
    refine lv_iload_n hx hb dX10_begin_16 rfl (lv_at hl 1 rfl) ?_
    have hf := Option.some.inj hf
    subst hf
    exact ret_i F hr hk Z dX10_begin_17
  have hf := if_f c7 hf
  refine lv_aload_n hx hb dX10_begin_10 rfl (lv_at hl 0 rfl) ?_
  refine lv_iload_n hx hb dX10_begin_11 rfl (lv_at hl 1 rfl) ?_
  refine lv_iload_n hx hb dX10_begin_12 rfl (lv_at hl 2 rfl) ?_
  refine lv_iconst (v := 2) hx hb dX10_begin_13 (by decide) ?_
  refine lv_ishl hx hb dX10_begin_14 ?_
  obtain ⟨i15, hf⟩ := if_some hf
  refine as21 F K Z i15 dX10_begin_15 (fun H locs Z => ?_)
  refine lv_iload_n hx hb dX10_begin_16 rfl (lv_at hl 1 rfl) ?_
  have hf := Option.some.inj hf
  subst hf
  exact ret_i F hr hk Z dX10_begin_17
def f_J0_coder_7d493_s4 (n : Nat) (st : StT) : Option (Int32 × StT) := if (1 : Int32) = 0 then (if isB (1 : Int32) = true then some ((1 : Int32), st) else none) else (if isB (0 : Int32) = true then some ((0 : Int32), st) else none)
set_option maxRecDepth 100000 in
set_option maxHeartbeats 4000000 in
theorem c_J0_coder_7d493_s4 {l : Launch} {D : va_G} {ad : Nat → Nat} {cy : Nat → ClassId} {ee : EE} {n : Nat} {st : StT} {res : (Int32 × StT)} (hf : f_J0_coder_7d493_s4 n st = some res) : CT l yJ0_coder_7d493 cJ0_coder_7d493 1 (some .byte) 0 0 D cy ee (wC ad cy st) (wC ad cy res.2) [.ref (ee.1 4)] (some (.int res.1)) := by
  refine CT.of (by decide +kernel) (Nat.le_of_ble_eq_true rfl) ?_
  intro p e s m args below meth c A F hr hk K E hA Z ls hl
  have hl : lv_has ls 1 [(0, .ref (ee.1 4))] := hl
  have hx := F.1
  have hb := F.2.1
  unfold f_J0_coder_7d493_s4 at hf
  refine va_gets hx hb E.2.2.2.1 Z.2.2 F.2.2.2.1 (F.2.2.2.2 _ (List.mem_cons_of_mem _ wd437)) (fun _ h => h) dJ0_coder_7d493_0 ?_
  refine lv_if_eq (tgt := 13) hx hb dJ0_coder_7d493_3 (by decide) (fun c3 => ?_) (fun c3 => ?_)
  · have hf := if_t c3 hf
    refine lv_iconst (v := 1) hx hb dJ0_coder_7d493_13 (by decide) ?_
    obtain ⟨i14, hf⟩ := if_some hf
    have hf := Option.some.inj hf
    subst hf
    exact ret_b F hr hk Z i14 dJ0_coder_7d493_14
  have hf := if_f c3 hf
  refine lv_aload_n hx hb dJ0_coder_7d493_6 rfl (lv_at hl 0 rfl) ?_
  refine vk_getf hx hb (E.2.1.1 4 (by decide)).2.1 Z.2.2 F.2.2.2.1 (F.2.2.2.2 _ (List.mem_cons_of_mem _ wd438)) (fun _ h => h) dJ0_coder_7d493_7 ?_
  refine lv_goto (tgt := 14) hx hb dJ0_coder_7d493_10 (by decide) ?_
  obtain ⟨i14, hf⟩ := if_some hf
  have hf := Option.some.inj hf
  subst hf
  exact ret_b F hr hk Z i14 dJ0_coder_7d493_14
def f_J0_length_8abf5_s4 (n : Nat) (st : StT) : Option (Int32 × StT) := (f_J0_coder_7d493_s4 n st).bind fun q6 => (some (((2 : Int32) >>> (q6.1 &&& 31)), q6.2))
section
variable {p : Program} {l : Launch} {e : Env} {R : Room} {s : State} {m : MethodId} {args : Array Value} {below : List Frame} {meth : Method} {c : Code} {H : Heap} {locs : List Loc} {Q : State → Prop}
variable {cc : ByteArray} {nL pc : Nat} {ls : Array Slot} {rest : List Value} {D : va_G} {A : Nat → Prop} {cw : Cond} {ad : Nat → Nat} {cy : Nat → ClassId} {ee : EE} {st : StT} {own : String}
theorem krJ0_335_J0_coder_7d493_s4 {n : Nat}  {q : (Int32 × StT)} (F : CallFix p m c cc nL s args (cw :: Gw) RJ0) (K : va_K D vwCl (tyL cy) s) (E : EV ee A s s.heap) (hA : ∀ q, s.heap.size ≤ q → A q) (Z : ZG D (wC ad cy st) A s H locs) (hf : f_J0_coder_7d493_s4 n st = some q) (hR : 1 ≤ R.frames ∧ 20 ≤ R.locals) (hl : ls.size = nL) (hst : (rest.map fun v => v.category).sum ≤ 8) (hd : decode cc pc = .ok (.invokevirtual 335, 3)) (kk : ∀ (H1 : Heap) (locs1 : List Loc), ZG D (wC ad cy q.2) A s H1 locs1 → W p l e R s m args below meth c H1 locs1 0 0 Q (F0 m (pc + 3) ls (.int q.1 :: rest))) : W p l e R s m args below meth c H locs 0 0 Q (F0 m pc ls (.ref (ee.1 4) :: rest)) :=
  call_K (n := 0) (As := []) (rv := some (.int q.1)) 4 F K E hA Z (c_J0_coder_7d493_s4 (l := l) (D := D) (ad := ad) (cy := cy) (ee := ee) hf) ⟨wd440, wd439, wd441, wd442, wd443⟩ (by decide +kernel) (by decide) hR rfl hl hst hd kk
end
set_option maxRecDepth 100000 in
set_option maxHeartbeats 4000000 in
theorem c_J0_length_8abf5_s4 {l : Launch} {D : va_G} {ad : Nat → Nat} {cy : Nat → ClassId} {ee : EE} {n : Nat} {st : StT} {res : (Int32 × StT)} (hf : f_J0_length_8abf5_s4 n st = some res) : CT l yJ0_length_8abf5 cJ0_length_8abf5 1 (some .int) 1 20 D cy ee (wC ad cy st) (wC ad cy res.2) [.ref (ee.1 4)] (some (.int res.1)) := by
  refine CT.of (by decide +kernel) (Nat.le_of_ble_eq_true rfl) ?_
  intro p e s m args below meth c A F hr hk K E hA Z ls hl
  have hl : lv_has ls 1 [(0, .ref (ee.1 4))] := hl
  have hx := F.1
  have hb := F.2.1
  unfold f_J0_length_8abf5_s4 at hf
  refine lv_aload_n hx hb dJ0_length_8abf5_0 rfl (lv_at hl 0 rfl) ?_
  refine vk_getf hx hb (E.2.1.1 4 (by decide)).2.2.1 Z.2.2 F.2.2.2.1 (F.2.2.2.2 _ (List.mem_cons_of_mem _ wd436)) (fun _ h => h) dJ0_length_8abf5_1 ?_
  refine va_tlen hx hb (E.2.1.1 4 (by decide)).2.2.2 Z.2.2 (v := 2) (by decide) dJ0_length_8abf5_4 ?_
  refine lv_aload_n hx hb dJ0_length_8abf5_5 rfl (lv_at hl 0 rfl) ?_
  obtain ⟨q6, h6, hf⟩ := bind_some hf
  refine krJ0_335_J0_coder_7d493_s4 F K E hA Z h6 ⟨Nat.le_of_ble_eq_true rfl, Nat.le_of_ble_eq_true rfl⟩ hl.1 (Nat.le_of_ble_eq_true rfl) dJ0_length_8abf5_6 (fun H locs Z => ?_)
  refine lv_ishr hx hb dJ0_length_8abf5_9 ?_
  have hf := Option.some.inj hf
  subst hf
  exact ret_i F hr hk Z dJ0_length_8abf5_10
def f_J0_isLatin1_aae02_s4 (n : Nat) (st : StT) : Option (Int32 × StT) := if (1 : Int32) = 0 then (some ((0 : Int32), st)) else (if (0 : Int32) = 0 then (some ((1 : Int32), st)) else (some ((0 : Int32), st)))
set_option maxRecDepth 100000 in
set_option maxHeartbeats 4000000 in
theorem c_J0_isLatin1_aae02_s4 {l : Launch} {D : va_G} {ad : Nat → Nat} {cy : Nat → ClassId} {ee : EE} {n : Nat} {st : StT} {res : (Int32 × StT)} (hf : f_J0_isLatin1_aae02_s4 n st = some res) : CT l yJ0_isLatin1_aae02 cJ0_isLatin1_aae02 1 (some .boolean) 0 0 D cy ee (wC ad cy st) (wC ad cy res.2) [.ref (ee.1 4)] (some (.int res.1)) := by
  refine CT.of (by decide +kernel) (Nat.le_of_ble_eq_true rfl) ?_
  intro p e s m args below meth c A F hr hk K E hA Z ls hl
  have hl : lv_has ls 1 [(0, .ref (ee.1 4))] := hl
  have hx := F.1
  have hb := F.2.1
  unfold f_J0_isLatin1_aae02_s4 at hf
  refine va_gets hx hb E.2.2.2.1 Z.2.2 F.2.2.2.1 (F.2.2.2.2 _ (List.mem_cons_of_mem _ wd437)) (fun _ h => h) dJ0_isLatin1_aae02_0 ?_
  refine lv_if_eq (tgt := 17) hx hb dJ0_isLatin1_aae02_3 (by decide) (fun c3 => ?_) (fun c3 => ?_)
  · have hf := if_t c3 hf
    refine lv_iconst (v := 0) hx hb dJ0_isLatin1_aae02_17 (by decide) ?_
    have hf := Option.some.inj hf
    subst hf
    exact ret_z F hr hk Z rfl dJ0_isLatin1_aae02_18
  have hf := if_f c3 hf
  refine lv_aload_n hx hb dJ0_isLatin1_aae02_6 rfl (lv_at hl 0 rfl) ?_
  refine vk_getf hx hb (E.2.1.1 4 (by decide)).2.1 Z.2.2 F.2.2.2.1 (F.2.2.2.2 _ (List.mem_cons_of_mem _ wd438)) (fun _ h => h) dJ0_isLatin1_aae02_7 ?_
  refine lv_if_ne (tgt := 17) hx hb dJ0_isLatin1_aae02_10 (by decide) (fun c10 => ?_) (fun c10 => ?_)
  · have hf := if_f c10 hf
    refine lv_iconst (v := 0) hx hb dJ0_isLatin1_aae02_17 (by decide) ?_
    have hf := Option.some.inj hf
    subst hf
    exact ret_z F hr hk Z rfl dJ0_isLatin1_aae02_18
  have hf := if_t c10 hf
  refine lv_iconst (v := 1) hx hb dJ0_isLatin1_aae02_13 (by decide) ?_
  refine lv_goto (tgt := 18) hx hb dJ0_isLatin1_aae02_14 (by decide) ?_
  have hf := Option.some.inj hf
  subst hf
  exact ret_z F hr hk Z rfl dJ0_isLatin1_aae02_18
def f_J3_checkIndex_8e157_n (n : Nat) (st : StT) (x0 : Int32) (x1 : Int32) : Option (Int32 × StT) := if x0 < 0 then (none) else (if x0 < x1 then (some (x0, st)) else (none))
theorem wd522 : Cond.fieldLink RJ0 1053 "jdk/internal/util/Preconditions" "SIOOBE_FORMATTER" "Ljava/util/function/BiFunction;" ∈ Gw := gT3 (List.mem_of_getElem? (i := 64) rfl) rfl
set_option maxRecDepth 100000 in
set_option maxHeartbeats 4000000 in
theorem c_J3_checkIndex_8e157_n {l : Launch} {D : va_G} {ad : Nat → Nat} {cy : Nat → ClassId} {ee : EE} {n : Nat} {st : StT} {x0 : Int32} {x1 : Int32} {res : (Int32 × StT)} (hf : f_J3_checkIndex_8e157_n n st x0 x1 = some res) : CT l yJ3_checkIndex_8e157 cJ3_checkIndex_8e157 3 (some .int) 0 0 D cy ee (wC ad cy st) (wC ad cy res.2) [.int x0, .int x1, .null] (some (.int res.1)) := by
  refine CT.of (by decide +kernel) (Nat.le_of_ble_eq_true rfl) ?_
  intro p e s m args below meth c A F hr hk K E hA Z ls hl
  have hl : lv_has ls 3 [(0, .int x0), (1, .int x1), (2, .null)] := hl
  have hx := F.1
  have hb := F.2.1
  unfold f_J3_checkIndex_8e157_n at hf
  refine lv_iload_n hx hb dJ3_checkIndex_8e157_0 rfl (lv_at hl 0 rfl) ?_
  refine lv_if_lt (tgt := 9) hx hb dJ3_checkIndex_8e157_1 (by decide) (fun c1 => ?_) (fun c1 => ?_)
  · have hf := if_t c1 hf
    cases hf
  have hf := if_f c1 hf
  refine lv_iload_n hx hb dJ3_checkIndex_8e157_4 rfl (lv_at hl 0 rfl) ?_
  refine lv_iload_n hx hb dJ3_checkIndex_8e157_5 rfl (lv_at hl 1 rfl) ?_
  refine lv_icmp_lt (tgt := 16) hx hb dJ3_checkIndex_8e157_6 (by decide) (fun c6 => ?_) (fun c6 => ?_)
  · have hf := if_t c6 hf
    refine lv_iload_n hx hb dJ3_checkIndex_8e157_16 rfl (lv_at hl 0 rfl) ?_
    have hf := Option.some.inj hf
    subst hf
    exact ret_i F hr hk Z dJ3_checkIndex_8e157_17
  have hf := if_f c6 hf
  cases hf

set_option maxRecDepth 100000 in
set_option maxHeartbeats 4000000 in
theorem c_J3_checkIndex_8e157_t {l : Launch} {D : va_G} {ad : Nat → Nat} {cy : Nat → ClassId} {ee : EE} {tz : Nat} {n : Nat} {st : StT} {x0 : Int32} {x1 : Int32} {res : (Int32 × StT)} (hf : f_J3_checkIndex_8e157_n n st x0 x1 = some res) : CT l yJ3_checkIndex_8e157 cJ3_checkIndex_8e157 3 (some .int) 0 0 D cy ee (wC ad cy st) (wC ad cy res.2) [.int x0, .int x1, .ref tz] (some (.int res.1)) := by
  refine CT.of (by decide +kernel) (Nat.le_of_ble_eq_true rfl) ?_
  intro p e s m args below meth c A F hr hk K E hA Z ls hl
  have hl : lv_has ls 3 [(0, .int x0), (1, .int x1), (2, .ref tz)] := hl
  have hx := F.1
  have hb := F.2.1
  unfold f_J3_checkIndex_8e157_n at hf
  refine lv_iload_n hx hb dJ3_checkIndex_8e157_0 rfl (lv_at hl 0 rfl) ?_
  refine lv_if_lt (tgt := 9) hx hb dJ3_checkIndex_8e157_1 (by decide) (fun c1 => ?_) (fun c1 => ?_)
  · have hf := if_t c1 hf
    cases hf
  have hf := if_f c1 hf
  refine lv_iload_n hx hb dJ3_checkIndex_8e157_4 rfl (lv_at hl 0 rfl) ?_
  refine lv_iload_n hx hb dJ3_checkIndex_8e157_5 rfl (lv_at hl 1 rfl) ?_
  refine lv_icmp_lt (tgt := 16) hx hb dJ3_checkIndex_8e157_6 (by decide) (fun c6 => ?_) (fun c6 => ?_)
  · have hf := if_t c6 hf
    refine lv_iload_n hx hb dJ3_checkIndex_8e157_16 rfl (lv_at hl 0 rfl) ?_
    have hf := Option.some.inj hf
    subst hf
    exact ret_i F hr hk Z dJ3_checkIndex_8e157_17
  have hf := if_f c6 hf
  cases hf
def f_J0_checkIndex_df160 (n : Nat) (st : StT) (x0 : Int32) (x1 : Int32) : Option StT := (f_J3_checkIndex_8e157_n n st x0 x1).bind fun q5 => (some q5.2)
theorem wd523 : Cond.methodLink RJ0 1059 yJ3_checkIndex_8e157 ∈ Gw := gT4 (List.mem_of_getElem? (i := 14) rfl) rfl
theorem wd524 : Cond.code yJ3_checkIndex_8e157 prog_22_method_11_code 3 (some .int) ∈ Gw := gT4 (List.mem_of_getElem? (i := 16) rfl) rfl
theorem wd525 : Cond.static yJ3_checkIndex_8e157 ∈ Gw := gT4 (List.mem_of_getElem? (i := 15) rfl) rfl
theorem wd526 : Cond.initialized RJ3 ∈ Gw := gT1 (List.mem_of_getElem? (i := 18) rfl) rfl
section
variable {p : Program} {l : Launch} {e : Env} {R : Room} {s : State} {m : MethodId} {args : Array Value} {below : List Frame} {meth : Method} {c : Code} {H : Heap} {locs : List Loc} {Q : State → Prop}
variable {cc : ByteArray} {nL pc : Nat} {ls : Array Slot} {rest : List Value} {D : va_G} {A : Nat → Prop} {cw : Cond} {ad : Nat → Nat} {cy : Nat → ClassId} {ee : EE} {st : StT} {own : String}
theorem krJ0_1059_J3_checkIndex_8e157_n {n : Nat} {a0 : Int32} {a1 : Int32} {q : (Int32 × StT)} (F : CallFix p m c cc nL s args (cw :: Gw) RJ0) (K : va_K D vwCl (tyL cy) s) (E : EV ee A s s.heap) (hA : ∀ q, s.heap.size ≤ q → A q) (Z : ZG D (wC ad cy st) A s H locs) (hf : f_J3_checkIndex_8e157_n n st a0 a1 = some q) (hR : 1 ≤ R.frames ∧ 22 ≤ R.locals) (hl : ls.size = nL) (hst : (rest.map fun v => v.category).sum ≤ 8) (hd : decode cc pc = .ok (.invokestatic 1059, 3)) (kk : ∀ (H1 : Heap) (locs1 : List Loc), ZG D (wC ad cy q.2) A s H1 locs1 → W p l e R s m args below meth c H1 locs1 0 0 Q (F0 m (pc + 3) ls (.int q.1 :: rest))) : W p l e R s m args below meth c H locs 0 0 Q (F0 m pc ls (.null :: .int a1 :: .int a0 :: rest)) :=
  call_S (n := 3) (As := [.int a0, .int a1, .null]) (rv := some (.int q.1)) F K E hA Z (c_J3_checkIndex_8e157_n (l := l) (D := D) (ad := ad) (cy := cy) (ee := ee) hf) ⟨wd524, wd523, wd525, wd526⟩ (by decide +kernel) hR rfl hl hst hd kk
theorem krJ0_1059_J3_checkIndex_8e157_t {n : Nat} {a0 : Int32} {a1 : Int32} {tz : Nat} {q : (Int32 × StT)} (F : CallFix p m c cc nL s args (cw :: Gw) RJ0) (K : va_K D vwCl (tyL cy) s) (E : EV ee A s s.heap) (hA : ∀ q, s.heap.size ≤ q → A q) (Z : ZG D (wC ad cy st) A s H locs) (hf : f_J3_checkIndex_8e157_n n st a0 a1 = some q) (hR : 1 ≤ R.frames ∧ 22 ≤ R.locals) (hl : ls.size = nL) (hst : (rest.map fun v => v.category).sum ≤ 8) (hd : decode cc pc = .ok (.invokestatic 1059, 3)) (kk : ∀ (H1 : Heap) (locs1 : List Loc), ZG D (wC ad cy q.2) A s H1 locs1 → W p l e R s m args below meth c H1 locs1 0 0 Q (F0 m (pc + 3) ls (.int q.1 :: rest))) : W p l e R s m args below meth c H locs 0 0 Q (F0 m pc ls (.ref tz :: .int a1 :: .int a0 :: rest)) :=
  call_S (n := 3) (As := [.int a0, .int a1, .ref tz]) (rv := some (.int q.1)) F K E hA Z (c_J3_checkIndex_8e157_t (l := l) (D := D) (ad := ad) (cy := cy) (ee := ee) hf) ⟨wd524, wd523, wd525, wd526⟩ (by decide +kernel) hR rfl hl hst hd kk
end
set_option maxRecDepth 100000 in
set_option maxHeartbeats 4000000 in
theorem c_J0_checkIndex_df160 {l : Launch} {D : va_G} {ad : Nat → Nat} {cy : Nat → ClassId} {ee : EE} {n : Nat} {st : StT} {x0 : Int32} {x1 : Int32} {res : StT} (hf : f_J0_checkIndex_df160 n st x0 x1 = some res) : CT l yJ0_checkIndex_df160 cJ0_checkIndex_df160 2 none 1 22 D cy ee (wC ad cy st) (wC ad cy res) [.int x0, .int x1] (none) := by
  refine CT.of (by decide +kernel) (Nat.le_of_ble_eq_true rfl) ?_
  intro p e s m args below meth c A F hr hk K E hA Z ls hl
  have hl : lv_has ls 2 [(0, .int x0), (1, .int x1)] := hl
  have hx := F.1
  have hb := F.2.1
  unfold f_J0_checkIndex_df160 at hf
  refine lv_iload_n hx hb dJ0_checkIndex_df160_0 rfl (lv_at hl 0 rfl) ?_
  refine lv_iload_n hx hb dJ0_checkIndex_df160_1 rfl (lv_at hl 1 rfl) ?_
  rcases E.2.2.2.2.1 with hz | ⟨tz, hz⟩
  · refine va_gets hx hb hz Z.2.2 F.2.2.2.1 (F.2.2.2.2 _ (List.mem_cons_of_mem _ wd522)) (fun _ h => h) dJ0_checkIndex_df160_2 ?_
    obtain ⟨q5, h5, hf⟩ := bind_some hf
    refine krJ0_1059_J3_checkIndex_8e157_n F K E hA Z h5 ⟨Nat.le_of_ble_eq_true rfl, Nat.le_of_ble_eq_true rfl⟩ hl.1 (Nat.le_of_ble_eq_true rfl) dJ0_checkIndex_df160_5 (fun H locs Z => ?_)
    refine lv_pop hx hb dJ0_checkIndex_df160_8 rfl ?_
    have hf := Option.some.inj hf
    subst hf
    exact ret_v F hr hk Z dJ0_checkIndex_df160_9
  refine va_gets hx hb hz Z.2.2 F.2.2.2.1 (F.2.2.2.2 _ (List.mem_cons_of_mem _ wd522)) (fun _ h => h) dJ0_checkIndex_df160_2 ?_
  obtain ⟨q5, h5, hf⟩ := bind_some hf
  refine krJ0_1059_J3_checkIndex_8e157_t F K E hA Z h5 ⟨Nat.le_of_ble_eq_true rfl, Nat.le_of_ble_eq_true rfl⟩ hl.1 (Nat.le_of_ble_eq_true rfl) dJ0_checkIndex_df160_5 (fun H locs Z => ?_)
  refine lv_pop hx hb dJ0_checkIndex_df160_8 rfl ?_
  have hf := Option.some.inj hf
  subst hf
  exact ret_v F hr hk Z dJ0_checkIndex_df160_9
def f_J1_charAt_3b067_v4 (n : Nat) (st : StT) (x1 : Int32) : Option (Int32 × StT) := (f_J0_checkIndex_df160 n st x1 (2 : Int32)).bind fun q3 => (if inB x1 2 = true then (if isC ((((strByt.getD 4 []).getD (x1).toNatClampNeg 0) &&& (255 : Int32)).toUInt32 % 65536).toInt32 = true then some (((((strByt.getD 4 []).getD (x1).toNatClampNeg 0) &&& (255 : Int32)).toUInt32 % 65536).toInt32, q3) else none) else none)
theorem wd527 : Cond.methodLink RJ1 9 yJ0_checkIndex_df160 ∈ Gw := gT4 (List.mem_of_getElem? (i := 11) rfl) rfl
theorem wd528 : Cond.code yJ0_checkIndex_df160 prog_19_method_155_code 2 none ∈ Gw := gT4 (List.mem_of_getElem? (i := 13) rfl) rfl
theorem wd529 : Cond.static yJ0_checkIndex_df160 ∈ Gw := gT4 (List.mem_of_getElem? (i := 12) rfl) rfl
section
variable {p : Program} {l : Launch} {e : Env} {R : Room} {s : State} {m : MethodId} {args : Array Value} {below : List Frame} {meth : Method} {c : Code} {H : Heap} {locs : List Loc} {Q : State → Prop}
variable {cc : ByteArray} {nL pc : Nat} {ls : Array Slot} {rest : List Value} {D : va_G} {A : Nat → Prop} {cw : Cond} {ad : Nat → Nat} {cy : Nat → ClassId} {ee : EE} {st : StT} {own : String}
theorem krJ1_9_J0_checkIndex_df160 {n : Nat} {a0 : Int32} {a1 : Int32} {q : StT} (F : CallFix p m c cc nL s args (cw :: Gw) RJ1) (K : va_K D vwCl (tyL cy) s) (E : EV ee A s s.heap) (hA : ∀ q, s.heap.size ≤ q → A q) (Z : ZG D (wC ad cy st) A s H locs) (hf : f_J0_checkIndex_df160 n st a0 a1 = some q) (hR : 2 ≤ R.frames ∧ 43 ≤ R.locals) (hl : ls.size = nL) (hst : (rest.map fun v => v.category).sum ≤ 8) (hd : decode cc pc = .ok (.invokestatic 9, 3)) (kk : ∀ (H1 : Heap) (locs1 : List Loc), ZG D (wC ad cy q) A s H1 locs1 → W p l e R s m args below meth c H1 locs1 0 0 Q (F0 m (pc + 3) ls (rest))) : W p l e R s m args below meth c H locs 0 0 Q (F0 m pc ls (.int a1 :: .int a0 :: rest)) :=
  call_S (n := 2) (As := [.int a0, .int a1]) (rv := none) F K E hA Z (c_J0_checkIndex_df160 (l := l) (D := D) (ad := ad) (cy := cy) (ee := ee) hf) ⟨wd528, wd527, wd529, wd443⟩ (by decide +kernel) hR rfl hl hst hd kk
end
set_option maxRecDepth 100000 in
set_option maxHeartbeats 4000000 in
theorem c_J1_charAt_3b067_v4 {l : Launch} {D : va_G} {ad : Nat → Nat} {cy : Nat → ClassId} {ee : EE} {n : Nat} {st : StT} {x1 : Int32} {res : (Int32 × StT)} (hf : f_J1_charAt_3b067_v4 n st x1 = some res) : CT l yJ1_charAt_3b067 cJ1_charAt_3b067 2 (some .char) 2 43 D cy ee (wC ad cy st) (wC ad cy res.2) [.ref (ee.2.1 4), .int x1] (some (.int res.1)) := by
  refine CT.of (by decide +kernel) (Nat.le_of_ble_eq_true rfl) ?_
  intro p e s m args below meth c A F hr hk K E hA Z ls hl
  have hl : lv_has ls 2 [(0, .ref (ee.2.1 4)), (1, .int x1)] := hl
  have hx := F.1
  have hb := F.2.1
  unfold f_J1_charAt_3b067_v4 at hf
  refine lv_iload_n hx hb dJ1_charAt_3b067_0 rfl (lv_at hl 1 rfl) ?_
  refine lv_aload_n hx hb dJ1_charAt_3b067_1 rfl (lv_at hl 0 rfl) ?_
  refine va_tlen hx hb (E.2.1.1 4 (by decide)).2.2.2 Z.2.2 (v := 2) (by decide) dJ1_charAt_3b067_2 ?_
  obtain ⟨q3, h3, hf⟩ := bind_some hf
  refine krJ1_9_J0_checkIndex_df160 F K E hA Z h3 ⟨Nat.le_of_ble_eq_true rfl, Nat.le_of_ble_eq_true rfl⟩ hl.1 (Nat.le_of_ble_eq_true rfl) dJ1_charAt_3b067_3 (fun H locs Z => ?_)
  refine lv_aload_n hx hb dJ1_charAt_3b067_6 rfl (lv_at hl 0 rfl) ?_
  refine lv_iload_n hx hb dJ1_charAt_3b067_7 rfl (lv_at hl 1 rfl) ?_
  obtain ⟨i8, hf⟩ := if_some hf
  refine va_tb hx hb (E.2.1.1 4 (by decide)).2.2.2 Z.2.2 (inB_vp i8) rfl dJ1_charAt_3b067_8 ?_
  refine lv_sipush (v := 255) hx hb dJ1_charAt_3b067_9 (by decide) ?_
  refine lv_iand hx hb dJ1_charAt_3b067_12 ?_
  refine lv_i2c hx hb dJ1_charAt_3b067_13 rfl ?_
  obtain ⟨i14, hf⟩ := if_some hf
  have hf := Option.some.inj hf
  subst hf
  exact ret_c F hr hk Z i14 dJ1_charAt_3b067_14
def f_J0_charAt_5068e_s4 (n : Nat) (st : StT) (x1 : Int32) : Option (Int32 × StT) := (f_J0_isLatin1_aae02_s4 n st).bind fun q1 => (if q1.1 = 0 then (none) else ((f_J1_charAt_3b067_v4 n q1.2 x1).bind fun q12 => (if isC q12.1 = true then some (q12.1, q12.2) else none)))
theorem wd530 : Cond.methodLink RJ0 495 yJ1_charAt_3b067 ∈ Gw := gT4 (List.mem_of_getElem? (i := 8) rfl) rfl
theorem wd531 : Cond.code yJ1_charAt_3b067 prog_20_method_2_code 2 (some .char) ∈ Gw := gT4 (List.mem_of_getElem? (i := 10) rfl) rfl
theorem wd532 : Cond.static yJ1_charAt_3b067 ∈ Gw := gT4 (List.mem_of_getElem? (i := 9) rfl) rfl
section
variable {p : Program} {l : Launch} {e : Env} {R : Room} {s : State} {m : MethodId} {args : Array Value} {below : List Frame} {meth : Method} {c : Code} {H : Heap} {locs : List Loc} {Q : State → Prop}
variable {cc : ByteArray} {nL pc : Nat} {ls : Array Slot} {rest : List Value} {D : va_G} {A : Nat → Prop} {cw : Cond} {ad : Nat → Nat} {cy : Nat → ClassId} {ee : EE} {st : StT} {own : String}
theorem krJ0_495_J1_charAt_3b067_v4 {n : Nat} {a1 : Int32} {q : (Int32 × StT)} (F : CallFix p m c cc nL s args (cw :: Gw) RJ0) (K : va_K D vwCl (tyL cy) s) (E : EV ee A s s.heap) (hA : ∀ q, s.heap.size ≤ q → A q) (Z : ZG D (wC ad cy st) A s H locs) (hf : f_J1_charAt_3b067_v4 n st a1 = some q) (hR : 3 ≤ R.frames ∧ 64 ≤ R.locals) (hl : ls.size = nL) (hst : (rest.map fun v => v.category).sum ≤ 8) (hd : decode cc pc = .ok (.invokestatic 495, 3)) (kk : ∀ (H1 : Heap) (locs1 : List Loc), ZG D (wC ad cy q.2) A s H1 locs1 → W p l e R s m args below meth c H1 locs1 0 0 Q (F0 m (pc + 3) ls (.int q.1 :: rest))) : W p l e R s m args below meth c H locs 0 0 Q (F0 m pc ls (.int a1 :: .ref (ee.2.1 4) :: rest)) :=
  call_S (n := 2) (As := [.ref (ee.2.1 4), .int a1]) (rv := some (.int q.1)) F K E hA Z (c_J1_charAt_3b067_v4 (l := l) (D := D) (ad := ad) (cy := cy) (ee := ee) hf) ⟨wd531, wd530, wd532, wd447⟩ (by decide +kernel) hR rfl hl hst hd kk
theorem krJ0_492_J0_isLatin1_aae02_s4 {n : Nat}  {q : (Int32 × StT)} (F : CallFix p m c cc nL s args (cw :: Gw) RJ0) (K : va_K D vwCl (tyL cy) s) (E : EV ee A s s.heap) (hA : ∀ q, s.heap.size ≤ q → A q) (Z : ZG D (wC ad cy st) A s H locs) (hf : f_J0_isLatin1_aae02_s4 n st = some q) (hR : 1 ≤ R.frames ∧ 20 ≤ R.locals) (hl : ls.size = nL) (hst : (rest.map fun v => v.category).sum ≤ 8) (hd : decode cc pc = .ok (.invokevirtual 492, 3)) (kk : ∀ (H1 : Heap) (locs1 : List Loc), ZG D (wC ad cy q.2) A s H1 locs1 → W p l e R s m args below meth c H1 locs1 0 0 Q (F0 m (pc + 3) ls (.int q.1 :: rest))) : W p l e R s m args below meth c H locs 0 0 Q (F0 m pc ls (.ref (ee.1 4) :: rest)) :=
  call_K (n := 0) (As := []) (rv := some (.int q.1)) 4 F K E hA Z (c_J0_isLatin1_aae02_s4 (l := l) (D := D) (ad := ad) (cy := cy) (ee := ee) hf) ⟨wd461, wd460, wd462, wd463, wd443⟩ (by decide +kernel) (by decide) hR rfl hl hst hd kk
end
set_option maxRecDepth 100000 in
set_option maxHeartbeats 4000000 in
theorem c_J0_charAt_5068e_s4 {l : Launch} {D : va_G} {ad : Nat → Nat} {cy : Nat → ClassId} {ee : EE} {n : Nat} {st : StT} {x1 : Int32} {res : (Int32 × StT)} (hf : f_J0_charAt_5068e_s4 n st x1 = some res) : CT l yJ0_charAt_5068e cJ0_charAt_5068e 2 (some .char) 3 64 D cy ee (wC ad cy st) (wC ad cy res.2) [.ref (ee.1 4), .int x1] (some (.int res.1)) := by
  refine CT.of (by decide +kernel) (Nat.le_of_ble_eq_true rfl) ?_
  intro p e s m args below meth c A F hr hk K E hA Z ls hl
  have hl : lv_has ls 2 [(0, .ref (ee.1 4)), (1, .int x1)] := hl
  have hx := F.1
  have hb := F.2.1
  unfold f_J0_charAt_5068e_s4 at hf
  refine lv_aload_n hx hb dJ0_charAt_5068e_0 rfl (lv_at hl 0 rfl) ?_
  obtain ⟨q1, h1, hf⟩ := bind_some hf
  refine krJ0_492_J0_isLatin1_aae02_s4 F K E hA Z h1 ⟨Nat.le_of_ble_eq_true rfl, Nat.le_of_ble_eq_true rfl⟩ hl.1 (Nat.le_of_ble_eq_true rfl) dJ0_charAt_5068e_1 (fun H locs Z => ?_)
  refine lv_if_eq (tgt := 16) hx hb dJ0_charAt_5068e_4 (by decide) (fun c4 => ?_) (fun c4 => ?_)
  · have hf := if_t c4 hf
    refine lv_aload_n hx hb dJ0_charAt_5068e_16 rfl (lv_at hl 0 rfl) ?_
    refine vk_getf hx hb (E.2.1.1 4 (by decide)).2.2.1 Z.2.2 F.2.2.2.1 (F.2.2.2.2 _ (List.mem_cons_of_mem _ wd436)) (fun _ h => h) dJ0_charAt_5068e_17 ?_
    refine lv_iload_n hx hb dJ0_charAt_5068e_20 rfl (lv_at hl 1 rfl) ?_
    cases hf
  have hf := if_f c4 hf
  refine lv_aload_n hx hb dJ0_charAt_5068e_7 rfl (lv_at hl 0 rfl) ?_
  refine vk_getf hx hb (E.2.1.1 4 (by decide)).2.2.1 Z.2.2 F.2.2.2.1 (F.2.2.2.2 _ (List.mem_cons_of_mem _ wd436)) (fun _ h => h) dJ0_charAt_5068e_8 ?_
  refine lv_iload_n hx hb dJ0_charAt_5068e_11 rfl (lv_at hl 1 rfl) ?_
  obtain ⟨q12, h12, hf⟩ := bind_some hf
  refine krJ0_495_J1_charAt_3b067_v4 F K E hA Z h12 ⟨Nat.le_of_ble_eq_true rfl, Nat.le_of_ble_eq_true rfl⟩ hl.1 (Nat.le_of_ble_eq_true rfl) dJ0_charAt_5068e_12 (fun H locs Z => ?_)
  obtain ⟨i15, hf⟩ := if_some hf
  have hf := Option.some.inj hf
  subst hf
  exact ret_c F hr hk Z i15 dJ0_charAt_5068e_15
def f_X10_putWord_s4_2 (n : Nat) : Nat → StT → Int32 → Option StT
  | 0, _, _ => none
  | k + 1, st, x2 => (f_J0_length_8abf5_s4 n st).bind fun q4 => (if q4.1 ≤ x2 then (some q4.2) else ((f_J0_charAt_5068e_s4 n q4.2 x2).bind fun q13 => ((f_X10_put n q13.2 q13.1).bind fun q16 => (f_X10_putWord_s4_2 n k q16 (x2 + (1 : Int32))))))
def f_X10_putWord_s4 (n : Nat) (st : StT) : Option StT := f_X10_putWord_s4_2 n n st (0 : Int32)
theorem wd533 : Cond.methodLink RX10 66 yJ0_charAt_5068e ∈ Gw := gT4 (List.mem_of_getElem? (i := 4) rfl) rfl
theorem wd534 : Cond.code yJ0_charAt_5068e prog_19_method_56_code 2 (some .char) ∈ Gw := gT4 (List.mem_of_getElem? (i := 7) rfl) rfl
theorem wd535 : Cond.instanceMethod yJ0_charAt_5068e ∈ Gw := gT4 (List.mem_of_getElem? (i := 5) rfl) rfl
theorem wd536 : Cond.selects RJ0 yJ0_charAt_5068e yJ0_charAt_5068e ∈ Gw := gT4 (List.mem_of_getElem? (i := 6) rfl) rfl
theorem wd537 : Cond.methodLink RX10 61 yJ0_length_8abf5 ∈ Gw := gT4 (List.mem_of_getElem? (i := 3) rfl) rfl
section
variable {p : Program} {l : Launch} {e : Env} {R : Room} {s : State} {m : MethodId} {args : Array Value} {below : List Frame} {meth : Method} {c : Code} {H : Heap} {locs : List Loc} {Q : State → Prop}
variable {cc : ByteArray} {nL pc : Nat} {ls : Array Slot} {rest : List Value} {D : va_G} {A : Nat → Prop} {cw : Cond} {ad : Nat → Nat} {cy : Nat → ClassId} {ee : EE} {st : StT} {own : String}
theorem krX10_66_J0_charAt_5068e_s4 {n : Nat} {a0 : Int32} {q : (Int32 × StT)} (F : CallFix p m c cc nL s args (cw :: Gw) RX10) (K : va_K D vwCl (tyL cy) s) (E : EV ee A s s.heap) (hA : ∀ q, s.heap.size ≤ q → A q) (Z : ZG D (wC ad cy st) A s H locs) (hf : f_J0_charAt_5068e_s4 n st a0 = some q) (hR : 4 ≤ R.frames ∧ 85 ≤ R.locals) (hl : ls.size = nL) (hst : (rest.map fun v => v.category).sum ≤ 8) (hd : decode cc pc = .ok (.invokevirtual 66, 3)) (kk : ∀ (H1 : Heap) (locs1 : List Loc), ZG D (wC ad cy q.2) A s H1 locs1 → W p l e R s m args below meth c H1 locs1 0 0 Q (F0 m (pc + 3) ls (.int q.1 :: rest))) : W p l e R s m args below meth c H locs 0 0 Q (F0 m pc ls (.int a0 :: .ref (ee.1 4) :: rest)) :=
  call_K (n := 1) (As := [.int a0]) (rv := some (.int q.1)) 4 F K E hA Z (c_J0_charAt_5068e_s4 (l := l) (D := D) (ad := ad) (cy := cy) (ee := ee) hf) ⟨wd534, wd533, wd535, wd536, wd443⟩ (by decide +kernel) (by decide) hR rfl hl hst hd kk
theorem krX10_61_J0_length_8abf5_s4 {n : Nat}  {q : (Int32 × StT)} (F : CallFix p m c cc nL s args (cw :: Gw) RX10) (K : va_K D vwCl (tyL cy) s) (E : EV ee A s s.heap) (hA : ∀ q, s.heap.size ≤ q → A q) (Z : ZG D (wC ad cy st) A s H locs) (hf : f_J0_length_8abf5_s4 n st = some q) (hR : 2 ≤ R.frames ∧ 40 ≤ R.locals) (hl : ls.size = nL) (hst : (rest.map fun v => v.category).sum ≤ 8) (hd : decode cc pc = .ok (.invokevirtual 61, 3)) (kk : ∀ (H1 : Heap) (locs1 : List Loc), ZG D (wC ad cy q.2) A s H1 locs1 → W p l e R s m args below meth c H1 locs1 0 0 Q (F0 m (pc + 3) ls (.int q.1 :: rest))) : W p l e R s m args below meth c H locs 0 0 Q (F0 m pc ls (.ref (ee.1 4) :: rest)) :=
  call_K (n := 0) (As := []) (rv := some (.int q.1)) 4 F K E hA Z (c_J0_length_8abf5_s4 (l := l) (D := D) (ad := ad) (cy := cy) (ee := ee) hf) ⟨wd454, wd537, wd455, wd456, wd443⟩ (by decide +kernel) (by decide) hR rfl hl hst hd kk
end
set_option maxRecDepth 100000 in
set_option maxHeartbeats 4000000 in
theorem b_X10_putWord_s4_2 {p : Program} {l : Launch} {e : Env} {s : State} {m : MethodId} {args : Array Value} {below : List Frame} {meth : Method} {c : Code} {D : va_G} {A : Nat → Prop} {ad : Nat → Nat} {cy : Nat → ClassId} {ee : EE} {n : Nat} {res : StT} (F : CallFix p m c cX10_putWord 3 s args (Cond.code yX10_putWord cX10_putWord 3 none :: Gw) yX10_putWord.cls) (hr : meth.sig.returnType = none) (hk : meth.locks = false) (K : va_K D vwCl (tyL cy) s) (E : EV ee A s s.heap) (hA : ∀ q, s.heap.size ≤ q → A q) : ∀ (k : Nat) (st : StT) (x2 : Int32), f_X10_putWord_s4_2 n k st x2 = some res → ∀ (H : Heap) (locs : List Loc) (ls : Array Slot), ZG D (wC ad cy st) A s H locs → lv_has ls 3 [(0, .ref (ad 18)), (1, .ref (ee.1 4)), (2, .int x2)] → W p l e { frames := 4, cells := 0, slots := 0, locals := 85 } s m args below meth c H locs 0 0 (MQ below (QC D (none) (wC ad cy res) A) args s 0 0 A) (F0 m 2 ls []) := by
  have hx := F.1
  have hb := F.2.1
  intro k
  induction k with
  | zero =>
    intro st x2 hf
    exact absurd hf (by simp [f_X10_putWord_s4_2])
  | succ k ih =>
    intro st x2 hf H locs ls Z hl
    rw [f_X10_putWord_s4_2] at hf
    refine lv_iload_n hx hb dX10_putWord_2 rfl (lv_at hl 2 rfl) ?_
    refine lv_aload_n hx hb dX10_putWord_3 rfl (lv_at hl 1 rfl) ?_
    obtain ⟨q4, h4, hf⟩ := bind_some hf
    refine krX10_61_J0_length_8abf5_s4 F K E hA Z h4 ⟨Nat.le_of_ble_eq_true rfl, Nat.le_of_ble_eq_true rfl⟩ hl.1 (Nat.le_of_ble_eq_true rfl) dX10_putWord_4 (fun H locs Z => ?_)
    refine lv_icmp_ge (tgt := 25) hx hb dX10_putWord_7 (by decide) (fun c7 => ?_) (fun c7 => ?_)
    · have hf := if_t c7 hf
      have hf := Option.some.inj hf
      subst hf
      exact ret_v F hr hk Z dX10_putWord_25
    have hf := if_f c7 hf
    refine lv_aload_n hx hb dX10_putWord_10 rfl (lv_at hl 0 rfl) ?_
    refine lv_aload_n hx hb dX10_putWord_11 rfl (lv_at hl 1 rfl) ?_
    refine lv_iload_n hx hb dX10_putWord_12 rfl (lv_at hl 2 rfl) ?_
    obtain ⟨q13, h13, hf⟩ := bind_some hf
    refine krX10_66_J0_charAt_5068e_s4 F K E hA Z h13 ⟨Nat.le_of_ble_eq_true rfl, Nat.le_of_ble_eq_true rfl⟩ hl.1 (Nat.le_of_ble_eq_true rfl) dX10_putWord_13 (fun H locs Z => ?_)
    obtain ⟨q16, h16, hf⟩ := bind_some hf
    refine krX10_70_X10_put F K E hA Z h16 ⟨Nat.le_of_ble_eq_true rfl, Nat.le_of_ble_eq_true rfl⟩ hl.1 (Nat.le_of_ble_eq_true rfl) dX10_putWord_16 (fun H locs Z => ?_)
    refine lv_iinc (v := (x2 + (1 : Int32))) (lv' := [(2, .int (x2 + (1 : Int32))), (0, .ref (ad 18)), (1, .ref (ee.1 4))]) hx hb dX10_putWord_19 hl (k := 2) rfl (congrArg (fun z => x2 + z) (by decide)) (by decide) rfl (fun ls hl => ?_)
    refine lv_goto (tgt := 2) hx hb dX10_putWord_22 (by decide) ?_
    exact ih _ _ hf _ _ _ Z (lv_sub hl [1, 2, 0] rfl)
set_option maxRecDepth 100000 in
set_option maxHeartbeats 4000000 in
theorem c_X10_putWord_s4 {l : Launch} {D : va_G} {ad : Nat → Nat} {cy : Nat → ClassId} {ee : EE} {n : Nat} {st : StT} {res : StT} (hf : f_X10_putWord_s4 n st = some res) : CT l yX10_putWord cX10_putWord 3 none 4 85 D cy ee (wC ad cy st) (wC ad cy res) [.ref (ad 18), .ref (ee.1 4)] (none) := by
  refine CT.of (by decide +kernel) (Nat.le_of_ble_eq_true rfl) ?_
  intro p e s m args below meth c A F hr hk K E hA Z ls hl
  have hl : lv_has ls 3 [(0, .ref (ad 18)), (1, .ref (ee.1 4))] := hl
  have hx := F.1
  have hb := F.2.1
  unfold f_X10_putWord_s4 at hf
  refine lv_iconst (v := 0) hx hb dX10_putWord_0 (by decide) ?_
  refine lv_istore_n (lv' := [(2, .int (0 : Int32)), (0, .ref (ad 18)), (1, .ref (ee.1 4))]) hx hb dX10_putWord_1 rfl hl (by decide) rfl (fun ls hl => ?_)
  exact b_X10_putWord_s4_2 F hr hk K E hA _ _ _ hf _ _ _ Z (lv_sub hl [1, 2, 0] rfl)
def f_X10_putSign (n : Nat) (st : StT) (x1 : Int32) : Option StT := if x1 = (5 : Int32) then ((f_X10_putWord_s4 n st).bind fun q8 => (some q8)) else (if x1 = (3 : Int32) then ((f_X10_put n st (38 : Int32)).bind fun q27 => (some q27)) else ((f_X10_put n st (124 : Int32)).bind fun q27 => (some q27)))
theorem wd538 : Cond.methodLink RX10 109 yX10_putWord ∈ Gw := gT3 (List.mem_of_getElem? (i := 239) rfl) rfl
theorem wd539 : Cond.code yX10_putWord prog_12_method_8_code 3 none ∈ Gw := gT4 (List.mem_of_getElem? (i := 2) rfl) rfl
theorem wd540 : Cond.instanceMethod yX10_putWord ∈ Gw := gT4 (List.mem_of_getElem? (i := 1) rfl) rfl
theorem wd541 : Cond.selects RX10 yX10_putWord yX10_putWord ∈ Gw := gP2 (q := (yX10_putWord, 8)) (List.mem_of_getElem? (i := 7) rfl)
section
variable {p : Program} {l : Launch} {e : Env} {R : Room} {s : State} {m : MethodId} {args : Array Value} {below : List Frame} {meth : Method} {c : Code} {H : Heap} {locs : List Loc} {Q : State → Prop}
variable {cc : ByteArray} {nL pc : Nat} {ls : Array Slot} {rest : List Value} {D : va_G} {A : Nat → Prop} {cw : Cond} {ad : Nat → Nat} {cy : Nat → ClassId} {ee : EE} {st : StT} {own : String}
theorem krX10_109_X10_putWord_s4 {n : Nat}  {q : StT} (F : CallFix p m c cc nL s args (cw :: Gw) RX10) (K : va_K D vwCl (tyL cy) s) (E : EV ee A s s.heap) (hA : ∀ q, s.heap.size ≤ q → A q) (Z : ZG D (wC ad cy st) A s H locs) (hf : f_X10_putWord_s4 n st = some q) (hR : 5 ≤ R.frames ∧ 107 ≤ R.locals) (hl : ls.size = nL) (hst : (rest.map fun v => v.category).sum ≤ 8) (hd : decode cc pc = .ok (.invokevirtual 109, 3)) (kk : ∀ (H1 : Heap) (locs1 : List Loc), ZG D (wC ad cy q) A s H1 locs1 → W p l e R s m args below meth c H1 locs1 0 0 Q (F0 m (pc + 3) ls (rest))) : W p l e R s m args below meth c H locs 0 0 Q (F0 m pc ls (.ref (ee.1 4) :: .ref (ad 18) :: rest)) :=
  call_V (q := (RX10, TX10, 8)) (n := 1) (As := [.ref (ee.1 4)]) (rv := none) 18 10 F K E hA Z (c_X10_putWord_s4 (l := l) (D := D) (ad := ad) (cy := cy) (ee := ee) hf) ⟨wd539, wd538, wd540, wd541, wd519⟩ (by decide +kernel) rfl rfl hR rfl hl hst hd kk
end
set_option maxRecDepth 100000 in
set_option maxHeartbeats 4000000 in
theorem c_X10_putSign {l : Launch} {D : va_G} {ad : Nat → Nat} {cy : Nat → ClassId} {ee : EE} {n : Nat} {st : StT} {x1 : Int32} {res : StT} (hf : f_X10_putSign n st x1 = some res) : CT l yX10_putSign cX10_putSign 2 none 5 107 D cy ee (wC ad cy st) (wC ad cy res) [.ref (ad 18), .int x1] (none) := by
  refine CT.of (by decide +kernel) (Nat.le_of_ble_eq_true rfl) ?_
  intro p e s m args below meth c A F hr hk K E hA Z ls hl
  have hl : lv_has ls 2 [(0, .ref (ad 18)), (1, .int x1)] := hl
  have hx := F.1
  have hb := F.2.1
  unfold f_X10_putSign at hf
  refine lv_iload_n hx hb dX10_putSign_0 rfl (lv_at hl 1 rfl) ?_
  refine lv_iconst (v := 5) hx hb dX10_putSign_1 (by decide) ?_
  refine lv_icmp_ne (tgt := 14) hx hb dX10_putSign_2 (by decide) (fun c2 => ?_) (fun c2 => ?_)
  · have hf := if_f c2 hf
    refine lv_aload_n hx hb dX10_putSign_14 rfl (lv_at hl 0 rfl) ?_
    refine lv_iload_n hx hb dX10_putSign_15 rfl (lv_at hl 1 rfl) ?_
    refine lv_iconst (v := 3) hx hb dX10_putSign_16 (by decide) ?_
    refine lv_icmp_ne (tgt := 25) hx hb dX10_putSign_17 (by decide) (fun c17 => ?_) (fun c17 => ?_)
    · have hf := if_f c17 hf
      refine lv_bipush (v := 124) hx hb dX10_putSign_25 (by decide) ?_
      obtain ⟨q27, h27, hf⟩ := bind_some hf
      refine krX10_70_X10_put F K E hA Z h27 ⟨Nat.le_of_ble_eq_true rfl, Nat.le_of_ble_eq_true rfl⟩ hl.1 (Nat.le_of_ble_eq_true rfl) dX10_putSign_27 (fun H locs Z => ?_)
      have hf := Option.some.inj hf
      subst hf
      exact ret_v F hr hk Z dX10_putSign_30
    have hf := if_t c17 hf
    refine lv_bipush (v := 38) hx hb dX10_putSign_20 (by decide) ?_
    refine lv_goto (tgt := 27) hx hb dX10_putSign_22 (by decide) ?_
    obtain ⟨q27, h27, hf⟩ := bind_some hf
    refine krX10_70_X10_put F K E hA Z h27 ⟨Nat.le_of_ble_eq_true rfl, Nat.le_of_ble_eq_true rfl⟩ hl.1 (Nat.le_of_ble_eq_true rfl) dX10_putSign_27 (fun H locs Z => ?_)
    have hf := Option.some.inj hf
    subst hf
    exact ret_v F hr hk Z dX10_putSign_30
  have hf := if_t c2 hf
  refine lv_aload_n hx hb dX10_putSign_5 rfl (lv_at hl 0 rfl) ?_
  refine va_ldcS hx hb F.2.2.2.1 E.2.2.1.2.2.2.2 dX10_putSign_6 ?_
  obtain ⟨q8, h8, hf⟩ := bind_some hf
  refine krX10_109_X10_putWord_s4 F K E hA Z h8 ⟨Nat.le_of_ble_eq_true rfl, Nat.le_of_ble_eq_true rfl⟩ hl.1 (Nat.le_of_ble_eq_true rfl) dX10_putSign_8 (fun H locs Z => ?_)
  refine lv_goto (tgt := 30) hx hb dX10_putSign_11 (by decide) ?_
  have hf := Option.some.inj hf
  subst hf
  exact ret_v F hr hk Z dX10_putSign_30
def f_J0_coder_7d493_s3 (n : Nat) (st : StT) : Option (Int32 × StT) := if (1 : Int32) = 0 then (if isB (1 : Int32) = true then some ((1 : Int32), st) else none) else (if isB (0 : Int32) = true then some ((0 : Int32), st) else none)
set_option maxRecDepth 100000 in
set_option maxHeartbeats 4000000 in
theorem c_J0_coder_7d493_s3 {l : Launch} {D : va_G} {ad : Nat → Nat} {cy : Nat → ClassId} {ee : EE} {n : Nat} {st : StT} {res : (Int32 × StT)} (hf : f_J0_coder_7d493_s3 n st = some res) : CT l yJ0_coder_7d493 cJ0_coder_7d493 1 (some .byte) 0 0 D cy ee (wC ad cy st) (wC ad cy res.2) [.ref (ee.1 3)] (some (.int res.1)) := by
  refine CT.of (by decide +kernel) (Nat.le_of_ble_eq_true rfl) ?_
  intro p e s m args below meth c A F hr hk K E hA Z ls hl
  have hl : lv_has ls 1 [(0, .ref (ee.1 3))] := hl
  have hx := F.1
  have hb := F.2.1
  unfold f_J0_coder_7d493_s3 at hf
  refine va_gets hx hb E.2.2.2.1 Z.2.2 F.2.2.2.1 (F.2.2.2.2 _ (List.mem_cons_of_mem _ wd437)) (fun _ h => h) dJ0_coder_7d493_0 ?_
  refine lv_if_eq (tgt := 13) hx hb dJ0_coder_7d493_3 (by decide) (fun c3 => ?_) (fun c3 => ?_)
  · have hf := if_t c3 hf
    refine lv_iconst (v := 1) hx hb dJ0_coder_7d493_13 (by decide) ?_
    obtain ⟨i14, hf⟩ := if_some hf
    have hf := Option.some.inj hf
    subst hf
    exact ret_b F hr hk Z i14 dJ0_coder_7d493_14
  have hf := if_f c3 hf
  refine lv_aload_n hx hb dJ0_coder_7d493_6 rfl (lv_at hl 0 rfl) ?_
  refine vk_getf hx hb (E.2.1.1 3 (by decide)).2.1 Z.2.2 F.2.2.2.1 (F.2.2.2.2 _ (List.mem_cons_of_mem _ wd438)) (fun _ h => h) dJ0_coder_7d493_7 ?_
  refine lv_goto (tgt := 14) hx hb dJ0_coder_7d493_10 (by decide) ?_
  obtain ⟨i14, hf⟩ := if_some hf
  have hf := Option.some.inj hf
  subst hf
  exact ret_b F hr hk Z i14 dJ0_coder_7d493_14
def f_J0_length_8abf5_s3 (n : Nat) (st : StT) : Option (Int32 × StT) := (f_J0_coder_7d493_s3 n st).bind fun q6 => (some (((5 : Int32) >>> (q6.1 &&& 31)), q6.2))
section
variable {p : Program} {l : Launch} {e : Env} {R : Room} {s : State} {m : MethodId} {args : Array Value} {below : List Frame} {meth : Method} {c : Code} {H : Heap} {locs : List Loc} {Q : State → Prop}
variable {cc : ByteArray} {nL pc : Nat} {ls : Array Slot} {rest : List Value} {D : va_G} {A : Nat → Prop} {cw : Cond} {ad : Nat → Nat} {cy : Nat → ClassId} {ee : EE} {st : StT} {own : String}
theorem krJ0_335_J0_coder_7d493_s3 {n : Nat}  {q : (Int32 × StT)} (F : CallFix p m c cc nL s args (cw :: Gw) RJ0) (K : va_K D vwCl (tyL cy) s) (E : EV ee A s s.heap) (hA : ∀ q, s.heap.size ≤ q → A q) (Z : ZG D (wC ad cy st) A s H locs) (hf : f_J0_coder_7d493_s3 n st = some q) (hR : 1 ≤ R.frames ∧ 20 ≤ R.locals) (hl : ls.size = nL) (hst : (rest.map fun v => v.category).sum ≤ 8) (hd : decode cc pc = .ok (.invokevirtual 335, 3)) (kk : ∀ (H1 : Heap) (locs1 : List Loc), ZG D (wC ad cy q.2) A s H1 locs1 → W p l e R s m args below meth c H1 locs1 0 0 Q (F0 m (pc + 3) ls (.int q.1 :: rest))) : W p l e R s m args below meth c H locs 0 0 Q (F0 m pc ls (.ref (ee.1 3) :: rest)) :=
  call_K (n := 0) (As := []) (rv := some (.int q.1)) 3 F K E hA Z (c_J0_coder_7d493_s3 (l := l) (D := D) (ad := ad) (cy := cy) (ee := ee) hf) ⟨wd440, wd439, wd441, wd442, wd443⟩ (by decide +kernel) (by decide) hR rfl hl hst hd kk
end
set_option maxRecDepth 100000 in
set_option maxHeartbeats 4000000 in
theorem c_J0_length_8abf5_s3 {l : Launch} {D : va_G} {ad : Nat → Nat} {cy : Nat → ClassId} {ee : EE} {n : Nat} {st : StT} {res : (Int32 × StT)} (hf : f_J0_length_8abf5_s3 n st = some res) : CT l yJ0_length_8abf5 cJ0_length_8abf5 1 (some .int) 1 20 D cy ee (wC ad cy st) (wC ad cy res.2) [.ref (ee.1 3)] (some (.int res.1)) := by
  refine CT.of (by decide +kernel) (Nat.le_of_ble_eq_true rfl) ?_
  intro p e s m args below meth c A F hr hk K E hA Z ls hl
  have hl : lv_has ls 1 [(0, .ref (ee.1 3))] := hl
  have hx := F.1
  have hb := F.2.1
  unfold f_J0_length_8abf5_s3 at hf
  refine lv_aload_n hx hb dJ0_length_8abf5_0 rfl (lv_at hl 0 rfl) ?_
  refine vk_getf hx hb (E.2.1.1 3 (by decide)).2.2.1 Z.2.2 F.2.2.2.1 (F.2.2.2.2 _ (List.mem_cons_of_mem _ wd436)) (fun _ h => h) dJ0_length_8abf5_1 ?_
  refine va_tlen hx hb (E.2.1.1 3 (by decide)).2.2.2 Z.2.2 (v := 5) (by decide) dJ0_length_8abf5_4 ?_
  refine lv_aload_n hx hb dJ0_length_8abf5_5 rfl (lv_at hl 0 rfl) ?_
  obtain ⟨q6, h6, hf⟩ := bind_some hf
  refine krJ0_335_J0_coder_7d493_s3 F K E hA Z h6 ⟨Nat.le_of_ble_eq_true rfl, Nat.le_of_ble_eq_true rfl⟩ hl.1 (Nat.le_of_ble_eq_true rfl) dJ0_length_8abf5_6 (fun H locs Z => ?_)
  refine lv_ishr hx hb dJ0_length_8abf5_9 ?_
  have hf := Option.some.inj hf
  subst hf
  exact ret_i F hr hk Z dJ0_length_8abf5_10
def f_J0_isLatin1_aae02_s3 (n : Nat) (st : StT) : Option (Int32 × StT) := if (1 : Int32) = 0 then (some ((0 : Int32), st)) else (if (0 : Int32) = 0 then (some ((1 : Int32), st)) else (some ((0 : Int32), st)))
set_option maxRecDepth 100000 in
set_option maxHeartbeats 4000000 in
theorem c_J0_isLatin1_aae02_s3 {l : Launch} {D : va_G} {ad : Nat → Nat} {cy : Nat → ClassId} {ee : EE} {n : Nat} {st : StT} {res : (Int32 × StT)} (hf : f_J0_isLatin1_aae02_s3 n st = some res) : CT l yJ0_isLatin1_aae02 cJ0_isLatin1_aae02 1 (some .boolean) 0 0 D cy ee (wC ad cy st) (wC ad cy res.2) [.ref (ee.1 3)] (some (.int res.1)) := by
  refine CT.of (by decide +kernel) (Nat.le_of_ble_eq_true rfl) ?_
  intro p e s m args below meth c A F hr hk K E hA Z ls hl
  have hl : lv_has ls 1 [(0, .ref (ee.1 3))] := hl
  have hx := F.1
  have hb := F.2.1
  unfold f_J0_isLatin1_aae02_s3 at hf
  refine va_gets hx hb E.2.2.2.1 Z.2.2 F.2.2.2.1 (F.2.2.2.2 _ (List.mem_cons_of_mem _ wd437)) (fun _ h => h) dJ0_isLatin1_aae02_0 ?_
  refine lv_if_eq (tgt := 17) hx hb dJ0_isLatin1_aae02_3 (by decide) (fun c3 => ?_) (fun c3 => ?_)
  · have hf := if_t c3 hf
    refine lv_iconst (v := 0) hx hb dJ0_isLatin1_aae02_17 (by decide) ?_
    have hf := Option.some.inj hf
    subst hf
    exact ret_z F hr hk Z rfl dJ0_isLatin1_aae02_18
  have hf := if_f c3 hf
  refine lv_aload_n hx hb dJ0_isLatin1_aae02_6 rfl (lv_at hl 0 rfl) ?_
  refine vk_getf hx hb (E.2.1.1 3 (by decide)).2.1 Z.2.2 F.2.2.2.1 (F.2.2.2.2 _ (List.mem_cons_of_mem _ wd438)) (fun _ h => h) dJ0_isLatin1_aae02_7 ?_
  refine lv_if_ne (tgt := 17) hx hb dJ0_isLatin1_aae02_10 (by decide) (fun c10 => ?_) (fun c10 => ?_)
  · have hf := if_f c10 hf
    refine lv_iconst (v := 0) hx hb dJ0_isLatin1_aae02_17 (by decide) ?_
    have hf := Option.some.inj hf
    subst hf
    exact ret_z F hr hk Z rfl dJ0_isLatin1_aae02_18
  have hf := if_t c10 hf
  refine lv_iconst (v := 1) hx hb dJ0_isLatin1_aae02_13 (by decide) ?_
  refine lv_goto (tgt := 18) hx hb dJ0_isLatin1_aae02_14 (by decide) ?_
  have hf := Option.some.inj hf
  subst hf
  exact ret_z F hr hk Z rfl dJ0_isLatin1_aae02_18
def f_J1_charAt_3b067_v3 (n : Nat) (st : StT) (x1 : Int32) : Option (Int32 × StT) := (f_J0_checkIndex_df160 n st x1 (5 : Int32)).bind fun q3 => (if inB x1 5 = true then (if isC ((((strByt.getD 3 []).getD (x1).toNatClampNeg 0) &&& (255 : Int32)).toUInt32 % 65536).toInt32 = true then some (((((strByt.getD 3 []).getD (x1).toNatClampNeg 0) &&& (255 : Int32)).toUInt32 % 65536).toInt32, q3) else none) else none)
set_option maxRecDepth 100000 in
set_option maxHeartbeats 4000000 in
theorem c_J1_charAt_3b067_v3 {l : Launch} {D : va_G} {ad : Nat → Nat} {cy : Nat → ClassId} {ee : EE} {n : Nat} {st : StT} {x1 : Int32} {res : (Int32 × StT)} (hf : f_J1_charAt_3b067_v3 n st x1 = some res) : CT l yJ1_charAt_3b067 cJ1_charAt_3b067 2 (some .char) 2 43 D cy ee (wC ad cy st) (wC ad cy res.2) [.ref (ee.2.1 3), .int x1] (some (.int res.1)) := by
  refine CT.of (by decide +kernel) (Nat.le_of_ble_eq_true rfl) ?_
  intro p e s m args below meth c A F hr hk K E hA Z ls hl
  have hl : lv_has ls 2 [(0, .ref (ee.2.1 3)), (1, .int x1)] := hl
  have hx := F.1
  have hb := F.2.1
  unfold f_J1_charAt_3b067_v3 at hf
  refine lv_iload_n hx hb dJ1_charAt_3b067_0 rfl (lv_at hl 1 rfl) ?_
  refine lv_aload_n hx hb dJ1_charAt_3b067_1 rfl (lv_at hl 0 rfl) ?_
  refine va_tlen hx hb (E.2.1.1 3 (by decide)).2.2.2 Z.2.2 (v := 5) (by decide) dJ1_charAt_3b067_2 ?_
  obtain ⟨q3, h3, hf⟩ := bind_some hf
  refine krJ1_9_J0_checkIndex_df160 F K E hA Z h3 ⟨Nat.le_of_ble_eq_true rfl, Nat.le_of_ble_eq_true rfl⟩ hl.1 (Nat.le_of_ble_eq_true rfl) dJ1_charAt_3b067_3 (fun H locs Z => ?_)
  refine lv_aload_n hx hb dJ1_charAt_3b067_6 rfl (lv_at hl 0 rfl) ?_
  refine lv_iload_n hx hb dJ1_charAt_3b067_7 rfl (lv_at hl 1 rfl) ?_
  obtain ⟨i8, hf⟩ := if_some hf
  refine va_tb hx hb (E.2.1.1 3 (by decide)).2.2.2 Z.2.2 (inB_vp i8) rfl dJ1_charAt_3b067_8 ?_
  refine lv_sipush (v := 255) hx hb dJ1_charAt_3b067_9 (by decide) ?_
  refine lv_iand hx hb dJ1_charAt_3b067_12 ?_
  refine lv_i2c hx hb dJ1_charAt_3b067_13 rfl ?_
  obtain ⟨i14, hf⟩ := if_some hf
  have hf := Option.some.inj hf
  subst hf
  exact ret_c F hr hk Z i14 dJ1_charAt_3b067_14
def f_J0_charAt_5068e_s3 (n : Nat) (st : StT) (x1 : Int32) : Option (Int32 × StT) := (f_J0_isLatin1_aae02_s3 n st).bind fun q1 => (if q1.1 = 0 then (none) else ((f_J1_charAt_3b067_v3 n q1.2 x1).bind fun q12 => (if isC q12.1 = true then some (q12.1, q12.2) else none)))
section
variable {p : Program} {l : Launch} {e : Env} {R : Room} {s : State} {m : MethodId} {args : Array Value} {below : List Frame} {meth : Method} {c : Code} {H : Heap} {locs : List Loc} {Q : State → Prop}
variable {cc : ByteArray} {nL pc : Nat} {ls : Array Slot} {rest : List Value} {D : va_G} {A : Nat → Prop} {cw : Cond} {ad : Nat → Nat} {cy : Nat → ClassId} {ee : EE} {st : StT} {own : String}
theorem krJ0_495_J1_charAt_3b067_v3 {n : Nat} {a1 : Int32} {q : (Int32 × StT)} (F : CallFix p m c cc nL s args (cw :: Gw) RJ0) (K : va_K D vwCl (tyL cy) s) (E : EV ee A s s.heap) (hA : ∀ q, s.heap.size ≤ q → A q) (Z : ZG D (wC ad cy st) A s H locs) (hf : f_J1_charAt_3b067_v3 n st a1 = some q) (hR : 3 ≤ R.frames ∧ 64 ≤ R.locals) (hl : ls.size = nL) (hst : (rest.map fun v => v.category).sum ≤ 8) (hd : decode cc pc = .ok (.invokestatic 495, 3)) (kk : ∀ (H1 : Heap) (locs1 : List Loc), ZG D (wC ad cy q.2) A s H1 locs1 → W p l e R s m args below meth c H1 locs1 0 0 Q (F0 m (pc + 3) ls (.int q.1 :: rest))) : W p l e R s m args below meth c H locs 0 0 Q (F0 m pc ls (.int a1 :: .ref (ee.2.1 3) :: rest)) :=
  call_S (n := 2) (As := [.ref (ee.2.1 3), .int a1]) (rv := some (.int q.1)) F K E hA Z (c_J1_charAt_3b067_v3 (l := l) (D := D) (ad := ad) (cy := cy) (ee := ee) hf) ⟨wd531, wd530, wd532, wd447⟩ (by decide +kernel) hR rfl hl hst hd kk
theorem krJ0_492_J0_isLatin1_aae02_s3 {n : Nat}  {q : (Int32 × StT)} (F : CallFix p m c cc nL s args (cw :: Gw) RJ0) (K : va_K D vwCl (tyL cy) s) (E : EV ee A s s.heap) (hA : ∀ q, s.heap.size ≤ q → A q) (Z : ZG D (wC ad cy st) A s H locs) (hf : f_J0_isLatin1_aae02_s3 n st = some q) (hR : 1 ≤ R.frames ∧ 20 ≤ R.locals) (hl : ls.size = nL) (hst : (rest.map fun v => v.category).sum ≤ 8) (hd : decode cc pc = .ok (.invokevirtual 492, 3)) (kk : ∀ (H1 : Heap) (locs1 : List Loc), ZG D (wC ad cy q.2) A s H1 locs1 → W p l e R s m args below meth c H1 locs1 0 0 Q (F0 m (pc + 3) ls (.int q.1 :: rest))) : W p l e R s m args below meth c H locs 0 0 Q (F0 m pc ls (.ref (ee.1 3) :: rest)) :=
  call_K (n := 0) (As := []) (rv := some (.int q.1)) 3 F K E hA Z (c_J0_isLatin1_aae02_s3 (l := l) (D := D) (ad := ad) (cy := cy) (ee := ee) hf) ⟨wd461, wd460, wd462, wd463, wd443⟩ (by decide +kernel) (by decide) hR rfl hl hst hd kk
end
set_option maxRecDepth 100000 in
set_option maxHeartbeats 4000000 in
theorem c_J0_charAt_5068e_s3 {l : Launch} {D : va_G} {ad : Nat → Nat} {cy : Nat → ClassId} {ee : EE} {n : Nat} {st : StT} {x1 : Int32} {res : (Int32 × StT)} (hf : f_J0_charAt_5068e_s3 n st x1 = some res) : CT l yJ0_charAt_5068e cJ0_charAt_5068e 2 (some .char) 3 64 D cy ee (wC ad cy st) (wC ad cy res.2) [.ref (ee.1 3), .int x1] (some (.int res.1)) := by
  refine CT.of (by decide +kernel) (Nat.le_of_ble_eq_true rfl) ?_
  intro p e s m args below meth c A F hr hk K E hA Z ls hl
  have hl : lv_has ls 2 [(0, .ref (ee.1 3)), (1, .int x1)] := hl
  have hx := F.1
  have hb := F.2.1
  unfold f_J0_charAt_5068e_s3 at hf
  refine lv_aload_n hx hb dJ0_charAt_5068e_0 rfl (lv_at hl 0 rfl) ?_
  obtain ⟨q1, h1, hf⟩ := bind_some hf
  refine krJ0_492_J0_isLatin1_aae02_s3 F K E hA Z h1 ⟨Nat.le_of_ble_eq_true rfl, Nat.le_of_ble_eq_true rfl⟩ hl.1 (Nat.le_of_ble_eq_true rfl) dJ0_charAt_5068e_1 (fun H locs Z => ?_)
  refine lv_if_eq (tgt := 16) hx hb dJ0_charAt_5068e_4 (by decide) (fun c4 => ?_) (fun c4 => ?_)
  · have hf := if_t c4 hf
    refine lv_aload_n hx hb dJ0_charAt_5068e_16 rfl (lv_at hl 0 rfl) ?_
    refine vk_getf hx hb (E.2.1.1 3 (by decide)).2.2.1 Z.2.2 F.2.2.2.1 (F.2.2.2.2 _ (List.mem_cons_of_mem _ wd436)) (fun _ h => h) dJ0_charAt_5068e_17 ?_
    refine lv_iload_n hx hb dJ0_charAt_5068e_20 rfl (lv_at hl 1 rfl) ?_
    cases hf
  have hf := if_f c4 hf
  refine lv_aload_n hx hb dJ0_charAt_5068e_7 rfl (lv_at hl 0 rfl) ?_
  refine vk_getf hx hb (E.2.1.1 3 (by decide)).2.2.1 Z.2.2 F.2.2.2.1 (F.2.2.2.2 _ (List.mem_cons_of_mem _ wd436)) (fun _ h => h) dJ0_charAt_5068e_8 ?_
  refine lv_iload_n hx hb dJ0_charAt_5068e_11 rfl (lv_at hl 1 rfl) ?_
  obtain ⟨q12, h12, hf⟩ := bind_some hf
  refine krJ0_495_J1_charAt_3b067_v3 F K E hA Z h12 ⟨Nat.le_of_ble_eq_true rfl, Nat.le_of_ble_eq_true rfl⟩ hl.1 (Nat.le_of_ble_eq_true rfl) dJ0_charAt_5068e_12 (fun H locs Z => ?_)
  obtain ⟨i15, hf⟩ := if_some hf
  have hf := Option.some.inj hf
  subst hf
  exact ret_c F hr hk Z i15 dJ0_charAt_5068e_15
def f_X10_putWord_s3_2 (n : Nat) : Nat → StT → Int32 → Option StT
  | 0, _, _ => none
  | k + 1, st, x2 => (f_J0_length_8abf5_s3 n st).bind fun q4 => (if q4.1 ≤ x2 then (some q4.2) else ((f_J0_charAt_5068e_s3 n q4.2 x2).bind fun q13 => ((f_X10_put n q13.2 q13.1).bind fun q16 => (f_X10_putWord_s3_2 n k q16 (x2 + (1 : Int32))))))
def f_X10_putWord_s3 (n : Nat) (st : StT) : Option StT := f_X10_putWord_s3_2 n n st (0 : Int32)
section
variable {p : Program} {l : Launch} {e : Env} {R : Room} {s : State} {m : MethodId} {args : Array Value} {below : List Frame} {meth : Method} {c : Code} {H : Heap} {locs : List Loc} {Q : State → Prop}
variable {cc : ByteArray} {nL pc : Nat} {ls : Array Slot} {rest : List Value} {D : va_G} {A : Nat → Prop} {cw : Cond} {ad : Nat → Nat} {cy : Nat → ClassId} {ee : EE} {st : StT} {own : String}
theorem krX10_66_J0_charAt_5068e_s3 {n : Nat} {a0 : Int32} {q : (Int32 × StT)} (F : CallFix p m c cc nL s args (cw :: Gw) RX10) (K : va_K D vwCl (tyL cy) s) (E : EV ee A s s.heap) (hA : ∀ q, s.heap.size ≤ q → A q) (Z : ZG D (wC ad cy st) A s H locs) (hf : f_J0_charAt_5068e_s3 n st a0 = some q) (hR : 4 ≤ R.frames ∧ 85 ≤ R.locals) (hl : ls.size = nL) (hst : (rest.map fun v => v.category).sum ≤ 8) (hd : decode cc pc = .ok (.invokevirtual 66, 3)) (kk : ∀ (H1 : Heap) (locs1 : List Loc), ZG D (wC ad cy q.2) A s H1 locs1 → W p l e R s m args below meth c H1 locs1 0 0 Q (F0 m (pc + 3) ls (.int q.1 :: rest))) : W p l e R s m args below meth c H locs 0 0 Q (F0 m pc ls (.int a0 :: .ref (ee.1 3) :: rest)) :=
  call_K (n := 1) (As := [.int a0]) (rv := some (.int q.1)) 3 F K E hA Z (c_J0_charAt_5068e_s3 (l := l) (D := D) (ad := ad) (cy := cy) (ee := ee) hf) ⟨wd534, wd533, wd535, wd536, wd443⟩ (by decide +kernel) (by decide) hR rfl hl hst hd kk
theorem krX10_61_J0_length_8abf5_s3 {n : Nat}  {q : (Int32 × StT)} (F : CallFix p m c cc nL s args (cw :: Gw) RX10) (K : va_K D vwCl (tyL cy) s) (E : EV ee A s s.heap) (hA : ∀ q, s.heap.size ≤ q → A q) (Z : ZG D (wC ad cy st) A s H locs) (hf : f_J0_length_8abf5_s3 n st = some q) (hR : 2 ≤ R.frames ∧ 40 ≤ R.locals) (hl : ls.size = nL) (hst : (rest.map fun v => v.category).sum ≤ 8) (hd : decode cc pc = .ok (.invokevirtual 61, 3)) (kk : ∀ (H1 : Heap) (locs1 : List Loc), ZG D (wC ad cy q.2) A s H1 locs1 → W p l e R s m args below meth c H1 locs1 0 0 Q (F0 m (pc + 3) ls (.int q.1 :: rest))) : W p l e R s m args below meth c H locs 0 0 Q (F0 m pc ls (.ref (ee.1 3) :: rest)) :=
  call_K (n := 0) (As := []) (rv := some (.int q.1)) 3 F K E hA Z (c_J0_length_8abf5_s3 (l := l) (D := D) (ad := ad) (cy := cy) (ee := ee) hf) ⟨wd454, wd537, wd455, wd456, wd443⟩ (by decide +kernel) (by decide) hR rfl hl hst hd kk
end
set_option maxRecDepth 100000 in
set_option maxHeartbeats 4000000 in
theorem b_X10_putWord_s3_2 {p : Program} {l : Launch} {e : Env} {s : State} {m : MethodId} {args : Array Value} {below : List Frame} {meth : Method} {c : Code} {D : va_G} {A : Nat → Prop} {ad : Nat → Nat} {cy : Nat → ClassId} {ee : EE} {n : Nat} {res : StT} (F : CallFix p m c cX10_putWord 3 s args (Cond.code yX10_putWord cX10_putWord 3 none :: Gw) yX10_putWord.cls) (hr : meth.sig.returnType = none) (hk : meth.locks = false) (K : va_K D vwCl (tyL cy) s) (E : EV ee A s s.heap) (hA : ∀ q, s.heap.size ≤ q → A q) : ∀ (k : Nat) (st : StT) (x2 : Int32), f_X10_putWord_s3_2 n k st x2 = some res → ∀ (H : Heap) (locs : List Loc) (ls : Array Slot), ZG D (wC ad cy st) A s H locs → lv_has ls 3 [(0, .ref (ad 18)), (1, .ref (ee.1 3)), (2, .int x2)] → W p l e { frames := 4, cells := 0, slots := 0, locals := 85 } s m args below meth c H locs 0 0 (MQ below (QC D (none) (wC ad cy res) A) args s 0 0 A) (F0 m 2 ls []) := by
  have hx := F.1
  have hb := F.2.1
  intro k
  induction k with
  | zero =>
    intro st x2 hf
    exact absurd hf (by simp [f_X10_putWord_s3_2])
  | succ k ih =>
    intro st x2 hf H locs ls Z hl
    rw [f_X10_putWord_s3_2] at hf
    refine lv_iload_n hx hb dX10_putWord_2 rfl (lv_at hl 2 rfl) ?_
    refine lv_aload_n hx hb dX10_putWord_3 rfl (lv_at hl 1 rfl) ?_
    obtain ⟨q4, h4, hf⟩ := bind_some hf
    refine krX10_61_J0_length_8abf5_s3 F K E hA Z h4 ⟨Nat.le_of_ble_eq_true rfl, Nat.le_of_ble_eq_true rfl⟩ hl.1 (Nat.le_of_ble_eq_true rfl) dX10_putWord_4 (fun H locs Z => ?_)
    refine lv_icmp_ge (tgt := 25) hx hb dX10_putWord_7 (by decide) (fun c7 => ?_) (fun c7 => ?_)
    · have hf := if_t c7 hf
      have hf := Option.some.inj hf
      subst hf
      exact ret_v F hr hk Z dX10_putWord_25
    have hf := if_f c7 hf
    refine lv_aload_n hx hb dX10_putWord_10 rfl (lv_at hl 0 rfl) ?_
    refine lv_aload_n hx hb dX10_putWord_11 rfl (lv_at hl 1 rfl) ?_
    refine lv_iload_n hx hb dX10_putWord_12 rfl (lv_at hl 2 rfl) ?_
    obtain ⟨q13, h13, hf⟩ := bind_some hf
    refine krX10_66_J0_charAt_5068e_s3 F K E hA Z h13 ⟨Nat.le_of_ble_eq_true rfl, Nat.le_of_ble_eq_true rfl⟩ hl.1 (Nat.le_of_ble_eq_true rfl) dX10_putWord_13 (fun H locs Z => ?_)
    obtain ⟨q16, h16, hf⟩ := bind_some hf
    refine krX10_70_X10_put F K E hA Z h16 ⟨Nat.le_of_ble_eq_true rfl, Nat.le_of_ble_eq_true rfl⟩ hl.1 (Nat.le_of_ble_eq_true rfl) dX10_putWord_16 (fun H locs Z => ?_)
    refine lv_iinc (v := (x2 + (1 : Int32))) (lv' := [(2, .int (x2 + (1 : Int32))), (0, .ref (ad 18)), (1, .ref (ee.1 3))]) hx hb dX10_putWord_19 hl (k := 2) rfl (congrArg (fun z => x2 + z) (by decide)) (by decide) rfl (fun ls hl => ?_)
    refine lv_goto (tgt := 2) hx hb dX10_putWord_22 (by decide) ?_
    exact ih _ _ hf _ _ _ Z (lv_sub hl [1, 2, 0] rfl)
set_option maxRecDepth 100000 in
set_option maxHeartbeats 4000000 in
theorem c_X10_putWord_s3 {l : Launch} {D : va_G} {ad : Nat → Nat} {cy : Nat → ClassId} {ee : EE} {n : Nat} {st : StT} {res : StT} (hf : f_X10_putWord_s3 n st = some res) : CT l yX10_putWord cX10_putWord 3 none 4 85 D cy ee (wC ad cy st) (wC ad cy res) [.ref (ad 18), .ref (ee.1 3)] (none) := by
  refine CT.of (by decide +kernel) (Nat.le_of_ble_eq_true rfl) ?_
  intro p e s m args below meth c A F hr hk K E hA Z ls hl
  have hl : lv_has ls 3 [(0, .ref (ad 18)), (1, .ref (ee.1 3))] := hl
  have hx := F.1
  have hb := F.2.1
  unfold f_X10_putWord_s3 at hf
  refine lv_iconst (v := 0) hx hb dX10_putWord_0 (by decide) ?_
  refine lv_istore_n (lv' := [(2, .int (0 : Int32)), (0, .ref (ad 18)), (1, .ref (ee.1 3))]) hx hb dX10_putWord_1 rfl hl (by decide) rfl (fun ls hl => ?_)
  exact b_X10_putWord_s3_2 F hr hk K E hA _ _ _ hf _ _ _ Z (lv_sub hl [1, 2, 0] rfl)
def f_J0_coder_7d493_s2 (n : Nat) (st : StT) : Option (Int32 × StT) := if (1 : Int32) = 0 then (if isB (1 : Int32) = true then some ((1 : Int32), st) else none) else (if isB (0 : Int32) = true then some ((0 : Int32), st) else none)
set_option maxRecDepth 100000 in
set_option maxHeartbeats 4000000 in
theorem c_J0_coder_7d493_s2 {l : Launch} {D : va_G} {ad : Nat → Nat} {cy : Nat → ClassId} {ee : EE} {n : Nat} {st : StT} {res : (Int32 × StT)} (hf : f_J0_coder_7d493_s2 n st = some res) : CT l yJ0_coder_7d493 cJ0_coder_7d493 1 (some .byte) 0 0 D cy ee (wC ad cy st) (wC ad cy res.2) [.ref (ee.1 2)] (some (.int res.1)) := by
  refine CT.of (by decide +kernel) (Nat.le_of_ble_eq_true rfl) ?_
  intro p e s m args below meth c A F hr hk K E hA Z ls hl
  have hl : lv_has ls 1 [(0, .ref (ee.1 2))] := hl
  have hx := F.1
  have hb := F.2.1
  unfold f_J0_coder_7d493_s2 at hf
  refine va_gets hx hb E.2.2.2.1 Z.2.2 F.2.2.2.1 (F.2.2.2.2 _ (List.mem_cons_of_mem _ wd437)) (fun _ h => h) dJ0_coder_7d493_0 ?_
  refine lv_if_eq (tgt := 13) hx hb dJ0_coder_7d493_3 (by decide) (fun c3 => ?_) (fun c3 => ?_)
  · have hf := if_t c3 hf
    refine lv_iconst (v := 1) hx hb dJ0_coder_7d493_13 (by decide) ?_
    obtain ⟨i14, hf⟩ := if_some hf
    have hf := Option.some.inj hf
    subst hf
    exact ret_b F hr hk Z i14 dJ0_coder_7d493_14
  have hf := if_f c3 hf
  refine lv_aload_n hx hb dJ0_coder_7d493_6 rfl (lv_at hl 0 rfl) ?_
  refine vk_getf hx hb (E.2.1.1 2 (by decide)).2.1 Z.2.2 F.2.2.2.1 (F.2.2.2.2 _ (List.mem_cons_of_mem _ wd438)) (fun _ h => h) dJ0_coder_7d493_7 ?_
  refine lv_goto (tgt := 14) hx hb dJ0_coder_7d493_10 (by decide) ?_
  obtain ⟨i14, hf⟩ := if_some hf
  have hf := Option.some.inj hf
  subst hf
  exact ret_b F hr hk Z i14 dJ0_coder_7d493_14
def f_J0_length_8abf5_s2 (n : Nat) (st : StT) : Option (Int32 × StT) := (f_J0_coder_7d493_s2 n st).bind fun q6 => (some (((4 : Int32) >>> (q6.1 &&& 31)), q6.2))
section
variable {p : Program} {l : Launch} {e : Env} {R : Room} {s : State} {m : MethodId} {args : Array Value} {below : List Frame} {meth : Method} {c : Code} {H : Heap} {locs : List Loc} {Q : State → Prop}
variable {cc : ByteArray} {nL pc : Nat} {ls : Array Slot} {rest : List Value} {D : va_G} {A : Nat → Prop} {cw : Cond} {ad : Nat → Nat} {cy : Nat → ClassId} {ee : EE} {st : StT} {own : String}
theorem krJ0_335_J0_coder_7d493_s2 {n : Nat}  {q : (Int32 × StT)} (F : CallFix p m c cc nL s args (cw :: Gw) RJ0) (K : va_K D vwCl (tyL cy) s) (E : EV ee A s s.heap) (hA : ∀ q, s.heap.size ≤ q → A q) (Z : ZG D (wC ad cy st) A s H locs) (hf : f_J0_coder_7d493_s2 n st = some q) (hR : 1 ≤ R.frames ∧ 20 ≤ R.locals) (hl : ls.size = nL) (hst : (rest.map fun v => v.category).sum ≤ 8) (hd : decode cc pc = .ok (.invokevirtual 335, 3)) (kk : ∀ (H1 : Heap) (locs1 : List Loc), ZG D (wC ad cy q.2) A s H1 locs1 → W p l e R s m args below meth c H1 locs1 0 0 Q (F0 m (pc + 3) ls (.int q.1 :: rest))) : W p l e R s m args below meth c H locs 0 0 Q (F0 m pc ls (.ref (ee.1 2) :: rest)) :=
  call_K (n := 0) (As := []) (rv := some (.int q.1)) 2 F K E hA Z (c_J0_coder_7d493_s2 (l := l) (D := D) (ad := ad) (cy := cy) (ee := ee) hf) ⟨wd440, wd439, wd441, wd442, wd443⟩ (by decide +kernel) (by decide) hR rfl hl hst hd kk
end
set_option maxRecDepth 100000 in
set_option maxHeartbeats 4000000 in
theorem c_J0_length_8abf5_s2 {l : Launch} {D : va_G} {ad : Nat → Nat} {cy : Nat → ClassId} {ee : EE} {n : Nat} {st : StT} {res : (Int32 × StT)} (hf : f_J0_length_8abf5_s2 n st = some res) : CT l yJ0_length_8abf5 cJ0_length_8abf5 1 (some .int) 1 20 D cy ee (wC ad cy st) (wC ad cy res.2) [.ref (ee.1 2)] (some (.int res.1)) := by
  refine CT.of (by decide +kernel) (Nat.le_of_ble_eq_true rfl) ?_
  intro p e s m args below meth c A F hr hk K E hA Z ls hl
  have hl : lv_has ls 1 [(0, .ref (ee.1 2))] := hl
  have hx := F.1
  have hb := F.2.1
  unfold f_J0_length_8abf5_s2 at hf
  refine lv_aload_n hx hb dJ0_length_8abf5_0 rfl (lv_at hl 0 rfl) ?_
  refine vk_getf hx hb (E.2.1.1 2 (by decide)).2.2.1 Z.2.2 F.2.2.2.1 (F.2.2.2.2 _ (List.mem_cons_of_mem _ wd436)) (fun _ h => h) dJ0_length_8abf5_1 ?_
  refine va_tlen hx hb (E.2.1.1 2 (by decide)).2.2.2 Z.2.2 (v := 4) (by decide) dJ0_length_8abf5_4 ?_
  refine lv_aload_n hx hb dJ0_length_8abf5_5 rfl (lv_at hl 0 rfl) ?_
  obtain ⟨q6, h6, hf⟩ := bind_some hf
  refine krJ0_335_J0_coder_7d493_s2 F K E hA Z h6 ⟨Nat.le_of_ble_eq_true rfl, Nat.le_of_ble_eq_true rfl⟩ hl.1 (Nat.le_of_ble_eq_true rfl) dJ0_length_8abf5_6 (fun H locs Z => ?_)
  refine lv_ishr hx hb dJ0_length_8abf5_9 ?_
  have hf := Option.some.inj hf
  subst hf
  exact ret_i F hr hk Z dJ0_length_8abf5_10
def f_J0_isLatin1_aae02_s2 (n : Nat) (st : StT) : Option (Int32 × StT) := if (1 : Int32) = 0 then (some ((0 : Int32), st)) else (if (0 : Int32) = 0 then (some ((1 : Int32), st)) else (some ((0 : Int32), st)))
set_option maxRecDepth 100000 in
set_option maxHeartbeats 4000000 in
theorem c_J0_isLatin1_aae02_s2 {l : Launch} {D : va_G} {ad : Nat → Nat} {cy : Nat → ClassId} {ee : EE} {n : Nat} {st : StT} {res : (Int32 × StT)} (hf : f_J0_isLatin1_aae02_s2 n st = some res) : CT l yJ0_isLatin1_aae02 cJ0_isLatin1_aae02 1 (some .boolean) 0 0 D cy ee (wC ad cy st) (wC ad cy res.2) [.ref (ee.1 2)] (some (.int res.1)) := by
  refine CT.of (by decide +kernel) (Nat.le_of_ble_eq_true rfl) ?_
  intro p e s m args below meth c A F hr hk K E hA Z ls hl
  have hl : lv_has ls 1 [(0, .ref (ee.1 2))] := hl
  have hx := F.1
  have hb := F.2.1
  unfold f_J0_isLatin1_aae02_s2 at hf
  refine va_gets hx hb E.2.2.2.1 Z.2.2 F.2.2.2.1 (F.2.2.2.2 _ (List.mem_cons_of_mem _ wd437)) (fun _ h => h) dJ0_isLatin1_aae02_0 ?_
  refine lv_if_eq (tgt := 17) hx hb dJ0_isLatin1_aae02_3 (by decide) (fun c3 => ?_) (fun c3 => ?_)
  · have hf := if_t c3 hf
    refine lv_iconst (v := 0) hx hb dJ0_isLatin1_aae02_17 (by decide) ?_
    have hf := Option.some.inj hf
    subst hf
    exact ret_z F hr hk Z rfl dJ0_isLatin1_aae02_18
  have hf := if_f c3 hf
  refine lv_aload_n hx hb dJ0_isLatin1_aae02_6 rfl (lv_at hl 0 rfl) ?_
  refine vk_getf hx hb (E.2.1.1 2 (by decide)).2.1 Z.2.2 F.2.2.2.1 (F.2.2.2.2 _ (List.mem_cons_of_mem _ wd438)) (fun _ h => h) dJ0_isLatin1_aae02_7 ?_
  refine lv_if_ne (tgt := 17) hx hb dJ0_isLatin1_aae02_10 (by decide) (fun c10 => ?_) (fun c10 => ?_)
  · have hf := if_f c10 hf
    refine lv_iconst (v := 0) hx hb dJ0_isLatin1_aae02_17 (by decide) ?_
    have hf := Option.some.inj hf
    subst hf
    exact ret_z F hr hk Z rfl dJ0_isLatin1_aae02_18
  have hf := if_t c10 hf
  refine lv_iconst (v := 1) hx hb dJ0_isLatin1_aae02_13 (by decide) ?_
  refine lv_goto (tgt := 18) hx hb dJ0_isLatin1_aae02_14 (by decide) ?_
  have hf := Option.some.inj hf
  subst hf
  exact ret_z F hr hk Z rfl dJ0_isLatin1_aae02_18
def f_J1_charAt_3b067_v2 (n : Nat) (st : StT) (x1 : Int32) : Option (Int32 × StT) := (f_J0_checkIndex_df160 n st x1 (4 : Int32)).bind fun q3 => (if inB x1 4 = true then (if isC ((((strByt.getD 2 []).getD (x1).toNatClampNeg 0) &&& (255 : Int32)).toUInt32 % 65536).toInt32 = true then some (((((strByt.getD 2 []).getD (x1).toNatClampNeg 0) &&& (255 : Int32)).toUInt32 % 65536).toInt32, q3) else none) else none)
set_option maxRecDepth 100000 in
set_option maxHeartbeats 4000000 in
theorem c_J1_charAt_3b067_v2 {l : Launch} {D : va_G} {ad : Nat → Nat} {cy : Nat → ClassId} {ee : EE} {n : Nat} {st : StT} {x1 : Int32} {res : (Int32 × StT)} (hf : f_J1_charAt_3b067_v2 n st x1 = some res) : CT l yJ1_charAt_3b067 cJ1_charAt_3b067 2 (some .char) 2 43 D cy ee (wC ad cy st) (wC ad cy res.2) [.ref (ee.2.1 2), .int x1] (some (.int res.1)) := by
  refine CT.of (by decide +kernel) (Nat.le_of_ble_eq_true rfl) ?_
  intro p e s m args below meth c A F hr hk K E hA Z ls hl
  have hl : lv_has ls 2 [(0, .ref (ee.2.1 2)), (1, .int x1)] := hl
  have hx := F.1
  have hb := F.2.1
  unfold f_J1_charAt_3b067_v2 at hf
  refine lv_iload_n hx hb dJ1_charAt_3b067_0 rfl (lv_at hl 1 rfl) ?_
  refine lv_aload_n hx hb dJ1_charAt_3b067_1 rfl (lv_at hl 0 rfl) ?_
  refine va_tlen hx hb (E.2.1.1 2 (by decide)).2.2.2 Z.2.2 (v := 4) (by decide) dJ1_charAt_3b067_2 ?_
  obtain ⟨q3, h3, hf⟩ := bind_some hf
  refine krJ1_9_J0_checkIndex_df160 F K E hA Z h3 ⟨Nat.le_of_ble_eq_true rfl, Nat.le_of_ble_eq_true rfl⟩ hl.1 (Nat.le_of_ble_eq_true rfl) dJ1_charAt_3b067_3 (fun H locs Z => ?_)
  refine lv_aload_n hx hb dJ1_charAt_3b067_6 rfl (lv_at hl 0 rfl) ?_
  refine lv_iload_n hx hb dJ1_charAt_3b067_7 rfl (lv_at hl 1 rfl) ?_
  obtain ⟨i8, hf⟩ := if_some hf
  refine va_tb hx hb (E.2.1.1 2 (by decide)).2.2.2 Z.2.2 (inB_vp i8) rfl dJ1_charAt_3b067_8 ?_
  refine lv_sipush (v := 255) hx hb dJ1_charAt_3b067_9 (by decide) ?_
  refine lv_iand hx hb dJ1_charAt_3b067_12 ?_
  refine lv_i2c hx hb dJ1_charAt_3b067_13 rfl ?_
  obtain ⟨i14, hf⟩ := if_some hf
  have hf := Option.some.inj hf
  subst hf
  exact ret_c F hr hk Z i14 dJ1_charAt_3b067_14
def f_J0_charAt_5068e_s2 (n : Nat) (st : StT) (x1 : Int32) : Option (Int32 × StT) := (f_J0_isLatin1_aae02_s2 n st).bind fun q1 => (if q1.1 = 0 then (none) else ((f_J1_charAt_3b067_v2 n q1.2 x1).bind fun q12 => (if isC q12.1 = true then some (q12.1, q12.2) else none)))
section
variable {p : Program} {l : Launch} {e : Env} {R : Room} {s : State} {m : MethodId} {args : Array Value} {below : List Frame} {meth : Method} {c : Code} {H : Heap} {locs : List Loc} {Q : State → Prop}
variable {cc : ByteArray} {nL pc : Nat} {ls : Array Slot} {rest : List Value} {D : va_G} {A : Nat → Prop} {cw : Cond} {ad : Nat → Nat} {cy : Nat → ClassId} {ee : EE} {st : StT} {own : String}
theorem krJ0_495_J1_charAt_3b067_v2 {n : Nat} {a1 : Int32} {q : (Int32 × StT)} (F : CallFix p m c cc nL s args (cw :: Gw) RJ0) (K : va_K D vwCl (tyL cy) s) (E : EV ee A s s.heap) (hA : ∀ q, s.heap.size ≤ q → A q) (Z : ZG D (wC ad cy st) A s H locs) (hf : f_J1_charAt_3b067_v2 n st a1 = some q) (hR : 3 ≤ R.frames ∧ 64 ≤ R.locals) (hl : ls.size = nL) (hst : (rest.map fun v => v.category).sum ≤ 8) (hd : decode cc pc = .ok (.invokestatic 495, 3)) (kk : ∀ (H1 : Heap) (locs1 : List Loc), ZG D (wC ad cy q.2) A s H1 locs1 → W p l e R s m args below meth c H1 locs1 0 0 Q (F0 m (pc + 3) ls (.int q.1 :: rest))) : W p l e R s m args below meth c H locs 0 0 Q (F0 m pc ls (.int a1 :: .ref (ee.2.1 2) :: rest)) :=
  call_S (n := 2) (As := [.ref (ee.2.1 2), .int a1]) (rv := some (.int q.1)) F K E hA Z (c_J1_charAt_3b067_v2 (l := l) (D := D) (ad := ad) (cy := cy) (ee := ee) hf) ⟨wd531, wd530, wd532, wd447⟩ (by decide +kernel) hR rfl hl hst hd kk
theorem krJ0_492_J0_isLatin1_aae02_s2 {n : Nat}  {q : (Int32 × StT)} (F : CallFix p m c cc nL s args (cw :: Gw) RJ0) (K : va_K D vwCl (tyL cy) s) (E : EV ee A s s.heap) (hA : ∀ q, s.heap.size ≤ q → A q) (Z : ZG D (wC ad cy st) A s H locs) (hf : f_J0_isLatin1_aae02_s2 n st = some q) (hR : 1 ≤ R.frames ∧ 20 ≤ R.locals) (hl : ls.size = nL) (hst : (rest.map fun v => v.category).sum ≤ 8) (hd : decode cc pc = .ok (.invokevirtual 492, 3)) (kk : ∀ (H1 : Heap) (locs1 : List Loc), ZG D (wC ad cy q.2) A s H1 locs1 → W p l e R s m args below meth c H1 locs1 0 0 Q (F0 m (pc + 3) ls (.int q.1 :: rest))) : W p l e R s m args below meth c H locs 0 0 Q (F0 m pc ls (.ref (ee.1 2) :: rest)) :=
  call_K (n := 0) (As := []) (rv := some (.int q.1)) 2 F K E hA Z (c_J0_isLatin1_aae02_s2 (l := l) (D := D) (ad := ad) (cy := cy) (ee := ee) hf) ⟨wd461, wd460, wd462, wd463, wd443⟩ (by decide +kernel) (by decide) hR rfl hl hst hd kk
end
set_option maxRecDepth 100000 in
set_option maxHeartbeats 4000000 in
theorem c_J0_charAt_5068e_s2 {l : Launch} {D : va_G} {ad : Nat → Nat} {cy : Nat → ClassId} {ee : EE} {n : Nat} {st : StT} {x1 : Int32} {res : (Int32 × StT)} (hf : f_J0_charAt_5068e_s2 n st x1 = some res) : CT l yJ0_charAt_5068e cJ0_charAt_5068e 2 (some .char) 3 64 D cy ee (wC ad cy st) (wC ad cy res.2) [.ref (ee.1 2), .int x1] (some (.int res.1)) := by
  refine CT.of (by decide +kernel) (Nat.le_of_ble_eq_true rfl) ?_
  intro p e s m args below meth c A F hr hk K E hA Z ls hl
  have hl : lv_has ls 2 [(0, .ref (ee.1 2)), (1, .int x1)] := hl
  have hx := F.1
  have hb := F.2.1
  unfold f_J0_charAt_5068e_s2 at hf
  refine lv_aload_n hx hb dJ0_charAt_5068e_0 rfl (lv_at hl 0 rfl) ?_
  obtain ⟨q1, h1, hf⟩ := bind_some hf
  refine krJ0_492_J0_isLatin1_aae02_s2 F K E hA Z h1 ⟨Nat.le_of_ble_eq_true rfl, Nat.le_of_ble_eq_true rfl⟩ hl.1 (Nat.le_of_ble_eq_true rfl) dJ0_charAt_5068e_1 (fun H locs Z => ?_)
  refine lv_if_eq (tgt := 16) hx hb dJ0_charAt_5068e_4 (by decide) (fun c4 => ?_) (fun c4 => ?_)
  · have hf := if_t c4 hf
    refine lv_aload_n hx hb dJ0_charAt_5068e_16 rfl (lv_at hl 0 rfl) ?_
    refine vk_getf hx hb (E.2.1.1 2 (by decide)).2.2.1 Z.2.2 F.2.2.2.1 (F.2.2.2.2 _ (List.mem_cons_of_mem _ wd436)) (fun _ h => h) dJ0_charAt_5068e_17 ?_
    refine lv_iload_n hx hb dJ0_charAt_5068e_20 rfl (lv_at hl 1 rfl) ?_
    cases hf
  have hf := if_f c4 hf
  refine lv_aload_n hx hb dJ0_charAt_5068e_7 rfl (lv_at hl 0 rfl) ?_
  refine vk_getf hx hb (E.2.1.1 2 (by decide)).2.2.1 Z.2.2 F.2.2.2.1 (F.2.2.2.2 _ (List.mem_cons_of_mem _ wd436)) (fun _ h => h) dJ0_charAt_5068e_8 ?_
  refine lv_iload_n hx hb dJ0_charAt_5068e_11 rfl (lv_at hl 1 rfl) ?_
  obtain ⟨q12, h12, hf⟩ := bind_some hf
  refine krJ0_495_J1_charAt_3b067_v2 F K E hA Z h12 ⟨Nat.le_of_ble_eq_true rfl, Nat.le_of_ble_eq_true rfl⟩ hl.1 (Nat.le_of_ble_eq_true rfl) dJ0_charAt_5068e_12 (fun H locs Z => ?_)
  obtain ⟨i15, hf⟩ := if_some hf
  have hf := Option.some.inj hf
  subst hf
  exact ret_c F hr hk Z i15 dJ0_charAt_5068e_15
def f_X10_putWord_s2_2 (n : Nat) : Nat → StT → Int32 → Option StT
  | 0, _, _ => none
  | k + 1, st, x2 => (f_J0_length_8abf5_s2 n st).bind fun q4 => (if q4.1 ≤ x2 then (some q4.2) else ((f_J0_charAt_5068e_s2 n q4.2 x2).bind fun q13 => ((f_X10_put n q13.2 q13.1).bind fun q16 => (f_X10_putWord_s2_2 n k q16 (x2 + (1 : Int32))))))
def f_X10_putWord_s2 (n : Nat) (st : StT) : Option StT := f_X10_putWord_s2_2 n n st (0 : Int32)
section
variable {p : Program} {l : Launch} {e : Env} {R : Room} {s : State} {m : MethodId} {args : Array Value} {below : List Frame} {meth : Method} {c : Code} {H : Heap} {locs : List Loc} {Q : State → Prop}
variable {cc : ByteArray} {nL pc : Nat} {ls : Array Slot} {rest : List Value} {D : va_G} {A : Nat → Prop} {cw : Cond} {ad : Nat → Nat} {cy : Nat → ClassId} {ee : EE} {st : StT} {own : String}
theorem krX10_66_J0_charAt_5068e_s2 {n : Nat} {a0 : Int32} {q : (Int32 × StT)} (F : CallFix p m c cc nL s args (cw :: Gw) RX10) (K : va_K D vwCl (tyL cy) s) (E : EV ee A s s.heap) (hA : ∀ q, s.heap.size ≤ q → A q) (Z : ZG D (wC ad cy st) A s H locs) (hf : f_J0_charAt_5068e_s2 n st a0 = some q) (hR : 4 ≤ R.frames ∧ 85 ≤ R.locals) (hl : ls.size = nL) (hst : (rest.map fun v => v.category).sum ≤ 8) (hd : decode cc pc = .ok (.invokevirtual 66, 3)) (kk : ∀ (H1 : Heap) (locs1 : List Loc), ZG D (wC ad cy q.2) A s H1 locs1 → W p l e R s m args below meth c H1 locs1 0 0 Q (F0 m (pc + 3) ls (.int q.1 :: rest))) : W p l e R s m args below meth c H locs 0 0 Q (F0 m pc ls (.int a0 :: .ref (ee.1 2) :: rest)) :=
  call_K (n := 1) (As := [.int a0]) (rv := some (.int q.1)) 2 F K E hA Z (c_J0_charAt_5068e_s2 (l := l) (D := D) (ad := ad) (cy := cy) (ee := ee) hf) ⟨wd534, wd533, wd535, wd536, wd443⟩ (by decide +kernel) (by decide) hR rfl hl hst hd kk
theorem krX10_61_J0_length_8abf5_s2 {n : Nat}  {q : (Int32 × StT)} (F : CallFix p m c cc nL s args (cw :: Gw) RX10) (K : va_K D vwCl (tyL cy) s) (E : EV ee A s s.heap) (hA : ∀ q, s.heap.size ≤ q → A q) (Z : ZG D (wC ad cy st) A s H locs) (hf : f_J0_length_8abf5_s2 n st = some q) (hR : 2 ≤ R.frames ∧ 40 ≤ R.locals) (hl : ls.size = nL) (hst : (rest.map fun v => v.category).sum ≤ 8) (hd : decode cc pc = .ok (.invokevirtual 61, 3)) (kk : ∀ (H1 : Heap) (locs1 : List Loc), ZG D (wC ad cy q.2) A s H1 locs1 → W p l e R s m args below meth c H1 locs1 0 0 Q (F0 m (pc + 3) ls (.int q.1 :: rest))) : W p l e R s m args below meth c H locs 0 0 Q (F0 m pc ls (.ref (ee.1 2) :: rest)) :=
  call_K (n := 0) (As := []) (rv := some (.int q.1)) 2 F K E hA Z (c_J0_length_8abf5_s2 (l := l) (D := D) (ad := ad) (cy := cy) (ee := ee) hf) ⟨wd454, wd537, wd455, wd456, wd443⟩ (by decide +kernel) (by decide) hR rfl hl hst hd kk
end
set_option maxRecDepth 100000 in
set_option maxHeartbeats 4000000 in
theorem b_X10_putWord_s2_2 {p : Program} {l : Launch} {e : Env} {s : State} {m : MethodId} {args : Array Value} {below : List Frame} {meth : Method} {c : Code} {D : va_G} {A : Nat → Prop} {ad : Nat → Nat} {cy : Nat → ClassId} {ee : EE} {n : Nat} {res : StT} (F : CallFix p m c cX10_putWord 3 s args (Cond.code yX10_putWord cX10_putWord 3 none :: Gw) yX10_putWord.cls) (hr : meth.sig.returnType = none) (hk : meth.locks = false) (K : va_K D vwCl (tyL cy) s) (E : EV ee A s s.heap) (hA : ∀ q, s.heap.size ≤ q → A q) : ∀ (k : Nat) (st : StT) (x2 : Int32), f_X10_putWord_s2_2 n k st x2 = some res → ∀ (H : Heap) (locs : List Loc) (ls : Array Slot), ZG D (wC ad cy st) A s H locs → lv_has ls 3 [(0, .ref (ad 18)), (1, .ref (ee.1 2)), (2, .int x2)] → W p l e { frames := 4, cells := 0, slots := 0, locals := 85 } s m args below meth c H locs 0 0 (MQ below (QC D (none) (wC ad cy res) A) args s 0 0 A) (F0 m 2 ls []) := by
  have hx := F.1
  have hb := F.2.1
  intro k
  induction k with
  | zero =>
    intro st x2 hf
    exact absurd hf (by simp [f_X10_putWord_s2_2])
  | succ k ih =>
    intro st x2 hf H locs ls Z hl
    rw [f_X10_putWord_s2_2] at hf
    refine lv_iload_n hx hb dX10_putWord_2 rfl (lv_at hl 2 rfl) ?_
    refine lv_aload_n hx hb dX10_putWord_3 rfl (lv_at hl 1 rfl) ?_
    obtain ⟨q4, h4, hf⟩ := bind_some hf
    refine krX10_61_J0_length_8abf5_s2 F K E hA Z h4 ⟨Nat.le_of_ble_eq_true rfl, Nat.le_of_ble_eq_true rfl⟩ hl.1 (Nat.le_of_ble_eq_true rfl) dX10_putWord_4 (fun H locs Z => ?_)
    refine lv_icmp_ge (tgt := 25) hx hb dX10_putWord_7 (by decide) (fun c7 => ?_) (fun c7 => ?_)
    · have hf := if_t c7 hf
      have hf := Option.some.inj hf
      subst hf
      exact ret_v F hr hk Z dX10_putWord_25
    have hf := if_f c7 hf
    refine lv_aload_n hx hb dX10_putWord_10 rfl (lv_at hl 0 rfl) ?_
    refine lv_aload_n hx hb dX10_putWord_11 rfl (lv_at hl 1 rfl) ?_
    refine lv_iload_n hx hb dX10_putWord_12 rfl (lv_at hl 2 rfl) ?_
    obtain ⟨q13, h13, hf⟩ := bind_some hf
    refine krX10_66_J0_charAt_5068e_s2 F K E hA Z h13 ⟨Nat.le_of_ble_eq_true rfl, Nat.le_of_ble_eq_true rfl⟩ hl.1 (Nat.le_of_ble_eq_true rfl) dX10_putWord_13 (fun H locs Z => ?_)
    obtain ⟨q16, h16, hf⟩ := bind_some hf
    refine krX10_70_X10_put F K E hA Z h16 ⟨Nat.le_of_ble_eq_true rfl, Nat.le_of_ble_eq_true rfl⟩ hl.1 (Nat.le_of_ble_eq_true rfl) dX10_putWord_16 (fun H locs Z => ?_)
    refine lv_iinc (v := (x2 + (1 : Int32))) (lv' := [(2, .int (x2 + (1 : Int32))), (0, .ref (ad 18)), (1, .ref (ee.1 2))]) hx hb dX10_putWord_19 hl (k := 2) rfl (congrArg (fun z => x2 + z) (by decide)) (by decide) rfl (fun ls hl => ?_)
    refine lv_goto (tgt := 2) hx hb dX10_putWord_22 (by decide) ?_
    exact ih _ _ hf _ _ _ Z (lv_sub hl [1, 2, 0] rfl)
set_option maxRecDepth 100000 in
set_option maxHeartbeats 4000000 in
theorem c_X10_putWord_s2 {l : Launch} {D : va_G} {ad : Nat → Nat} {cy : Nat → ClassId} {ee : EE} {n : Nat} {st : StT} {res : StT} (hf : f_X10_putWord_s2 n st = some res) : CT l yX10_putWord cX10_putWord 3 none 4 85 D cy ee (wC ad cy st) (wC ad cy res) [.ref (ad 18), .ref (ee.1 2)] (none) := by
  refine CT.of (by decide +kernel) (Nat.le_of_ble_eq_true rfl) ?_
  intro p e s m args below meth c A F hr hk K E hA Z ls hl
  have hl : lv_has ls 3 [(0, .ref (ad 18)), (1, .ref (ee.1 2))] := hl
  have hx := F.1
  have hb := F.2.1
  unfold f_X10_putWord_s2 at hf
  refine lv_iconst (v := 0) hx hb dX10_putWord_0 (by decide) ?_
  refine lv_istore_n (lv' := [(2, .int (0 : Int32)), (0, .ref (ad 18)), (1, .ref (ee.1 2))]) hx hb dX10_putWord_1 rfl hl (by decide) rfl (fun ls hl => ?_)
  exact b_X10_putWord_s2_2 F hr hk K E hA _ _ _ hf _ _ _ Z (lv_sub hl [1, 2, 0] rfl)
def f_X10_putName_3 (n : Nat) : Nat → StT → Int64 → Int32 → Option StT
  | 0, _, _, _ => none
  | k + 1, st, x1, x3 => if x3 < 0 then (some st) else (if ((x1.toUInt64 >>> (x3.toInt64.toUInt64 &&& Int64.toUInt64 63)).toInt64.toInt32 &&& (255 : Int32)) = 0 then (f_X10_putName_3 n k st x1 (x3 + (-8 : Int32))) else ((f_X10_put n st ((x1.toUInt64 >>> (x3.toInt64.toUInt64 &&& Int64.toUInt64 63)).toInt64.toInt32 &&& (255 : Int32))).bind fun q25 => (f_X10_putName_3 n k q25 x1 (x3 + (-8 : Int32)))))
def f_X10_putName (n : Nat) (st : StT) (x1 : Int64) : Option StT := f_X10_putName_3 n n st x1 (40 : Int32)
set_option maxRecDepth 100000 in
set_option maxHeartbeats 4000000 in
theorem b_X10_putName_3 {p : Program} {l : Launch} {e : Env} {s : State} {m : MethodId} {args : Array Value} {below : List Frame} {meth : Method} {c : Code} {D : va_G} {A : Nat → Prop} {ad : Nat → Nat} {cy : Nat → ClassId} {ee : EE} {n : Nat} {res : StT} (F : CallFix p m c cX10_putName 5 s args (Cond.code yX10_putName cX10_putName 5 none :: Gw) yX10_putName.cls) (hr : meth.sig.returnType = none) (hk : meth.locks = false) (K : va_K D vwCl (tyL cy) s) (E : EV ee A s s.heap) (hA : ∀ q, s.heap.size ≤ q → A q) : ∀ (k : Nat) (st : StT) (x1 : Int64) (x3 : Int32), f_X10_putName_3 n k st x1 x3 = some res → ∀ (H : Heap) (locs : List Loc) (ls : Array Slot), ZG D (wC ad cy st) A s H locs → lv_has ls 5 [(0, .ref (ad 18)), (1, .long x1), (3, .int x3)] → W p l e { frames := 2, cells := 0, slots := 0, locals := 42 } s m args below meth c H locs 0 0 (MQ below (QC D (none) (wC ad cy res) A) args s 0 0 A) (F0 m 3 ls []) := by
  have hx := F.1
  have hb := F.2.1
  intro k
  induction k with
  | zero =>
    intro st x1 x3 hf
    exact absurd hf (by simp [f_X10_putName_3])
  | succ k ih =>
    intro st x1 x3 hf H locs ls Z hl
    rw [f_X10_putName_3] at hf
    refine lv_iload_n hx hb dX10_putName_3 rfl (lv_at hl 2 rfl) ?_
    refine lv_if_lt (tgt := 34) hx hb dX10_putName_4 (by decide) (fun c4 => ?_) (fun c4 => ?_)
    · have hf := if_t c4 hf
      have hf := Option.some.inj hf
      subst hf
      exact ret_v F hr hk Z dX10_putName_34
    have hf := if_f c4 hf
    refine lv_lload_n hx hb dX10_putName_7 rfl (lv_at hl 1 rfl) ?_
    refine lv_iload_n hx hb dX10_putName_8 rfl (lv_at hl 2 rfl) ?_
    refine lv_lushr hx hb dX10_putName_9 rfl ?_
    refine lv_l2i hx hb dX10_putName_10 rfl ?_
    refine lv_sipush (v := 255) hx hb dX10_putName_11 (by decide) ?_
    refine lv_iand hx hb dX10_putName_14 ?_
    refine lv_istore (lv' := [(4, .int ((x1.toUInt64 >>> (x3.toInt64.toUInt64 &&& Int64.toUInt64 63)).toInt64.toInt32 &&& (255 : Int32))), (0, .ref (ad 18)), (1, .long x1), (3, .int x3)]) hx hb dX10_putName_15 hl (by decide) rfl (fun ls hl => ?_)
    refine lv_iload hx hb dX10_putName_17 (lv_at hl 0 rfl) ?_
    refine lv_if_eq (tgt := 28) hx hb dX10_putName_19 (by decide) (fun c19 => ?_) (fun c19 => ?_)
    · have hf := if_t c19 hf
      refine lv_iinc (v := (x3 + (-8 : Int32))) (lv' := [(3, .int (x3 + (-8 : Int32))), (4, .int ((x1.toUInt64 >>> (x3.toInt64.toUInt64 &&& Int64.toUInt64 63)).toInt64.toInt32 &&& (255 : Int32))), (0, .ref (ad 18)), (1, .long x1)]) hx hb dX10_putName_28 hl (k := 3) rfl (congrArg (fun z => x3 + z) (by decide)) (by decide) rfl (fun ls hl => ?_)
      refine lv_goto (tgt := 3) hx hb dX10_putName_31 (by decide) ?_
      exact ih _ _ _ hf _ _ _ Z (lv_sub hl [2, 3, 0] rfl)
    have hf := if_f c19 hf
    refine lv_aload_n hx hb dX10_putName_22 rfl (lv_at hl 1 rfl) ?_
    refine lv_iload hx hb dX10_putName_23 (lv_at hl 0 rfl) ?_
    obtain ⟨q25, h25, hf⟩ := bind_some hf
    refine krX10_70_X10_put F K E hA Z h25 ⟨Nat.le_of_ble_eq_true rfl, Nat.le_of_ble_eq_true rfl⟩ hl.1 (Nat.le_of_ble_eq_true rfl) dX10_putName_25 (fun H locs Z => ?_)
    refine lv_iinc (v := (x3 + (-8 : Int32))) (lv' := [(3, .int (x3 + (-8 : Int32))), (4, .int ((x1.toUInt64 >>> (x3.toInt64.toUInt64 &&& Int64.toUInt64 63)).toInt64.toInt32 &&& (255 : Int32))), (0, .ref (ad 18)), (1, .long x1)]) hx hb dX10_putName_28 hl (k := 3) rfl (congrArg (fun z => x3 + z) (by decide)) (by decide) rfl (fun ls hl => ?_)
    refine lv_goto (tgt := 3) hx hb dX10_putName_31 (by decide) ?_
    exact ih _ _ _ hf _ _ _ Z (lv_sub hl [2, 3, 0] rfl)
set_option maxRecDepth 100000 in
set_option maxHeartbeats 4000000 in
theorem c_X10_putName {l : Launch} {D : va_G} {ad : Nat → Nat} {cy : Nat → ClassId} {ee : EE} {n : Nat} {st : StT} {x1 : Int64} {res : StT} (hf : f_X10_putName n st x1 = some res) : CT l yX10_putName cX10_putName 5 none 2 42 D cy ee (wC ad cy st) (wC ad cy res) [.ref (ad 18), .long x1] (none) := by
  refine CT.of (by decide +kernel) (Nat.le_of_ble_eq_true rfl) ?_
  intro p e s m args below meth c A F hr hk K E hA Z ls hl
  have hl : lv_has ls 5 [(0, .ref (ad 18)), (1, .long x1)] := hl
  have hx := F.1
  have hb := F.2.1
  unfold f_X10_putName at hf
  refine lv_bipush (v := 40) hx hb dX10_putName_0 (by decide) ?_
  refine lv_istore_n (lv' := [(3, .int (40 : Int32)), (0, .ref (ad 18)), (1, .long x1)]) hx hb dX10_putName_2 rfl hl (by decide) rfl (fun ls hl => ?_)
  exact b_X10_putName_3 F hr hk K E hA _ _ _ _ hf _ _ _ Z (lv_sub hl [1, 2, 0] rfl)
def f_X10_putAtom (n : Nat) (st : StT) (x1 : Int32) (x2 : Int32) : Option StT := if x1 = (2 : Int32) then ((f_X1_firstOf_F0 n st x2).bind fun q15 => ((f_X1_nameOf_F0 n q15.2 q15.1).bind fun q18 => ((f_X10_putName n q18.2 q18.1).bind fun q21 => (some q21)))) else (if x1 = (1 : Int32) then ((f_X10_putWord_s2 n st).bind fun q40 => (some q40)) else ((f_X10_putWord_s3 n st).bind fun q40 => (some q40)))
theorem wd542 : Cond.methodLink RX10 101 yX10_putName ∈ Gw := gT3 (List.mem_of_getElem? (i := 228) rfl) rfl
theorem wd543 : Cond.code yX10_putName prog_12_method_13_code 5 none ∈ Gw := gT3 (List.mem_of_getElem? (i := 231) rfl) rfl
theorem wd544 : Cond.instanceMethod yX10_putName ∈ Gw := gT3 (List.mem_of_getElem? (i := 230) rfl) rfl
theorem wd545 : Cond.selects RX10 yX10_putName yX10_putName ∈ Gw := gP2 (q := (yX10_putName, 8)) (List.mem_of_getElem? (i := 5) rfl)
theorem wd546 : Cond.methodLink RX10 97 yX1_nameOf ∈ Gw := gT3 (List.mem_of_getElem? (i := 220) rfl) rfl
theorem wd547 : Cond.code yX1_nameOf prog_3_method_15_code 2 (some .long) ∈ Gw := gT3 (List.mem_of_getElem? (i := 223) rfl) rfl
theorem wd548 : Cond.instanceMethod yX1_nameOf ∈ Gw := gT3 (List.mem_of_getElem? (i := 221) rfl) rfl
theorem wd549 : Cond.selects RX1 yX1_nameOf yX1_nameOf ∈ Gw := gT3 (List.mem_of_getElem? (i := 222) rfl) rfl
theorem wd550 : Cond.methodLink RX10 88 yX1_firstOf ∈ Gw := gT3 (List.mem_of_getElem? (i := 219) rfl) rfl
section
variable {p : Program} {l : Launch} {e : Env} {R : Room} {s : State} {m : MethodId} {args : Array Value} {below : List Frame} {meth : Method} {c : Code} {H : Heap} {locs : List Loc} {Q : State → Prop}
variable {cc : ByteArray} {nL pc : Nat} {ls : Array Slot} {rest : List Value} {D : va_G} {A : Nat → Prop} {cw : Cond} {ad : Nat → Nat} {cy : Nat → ClassId} {ee : EE} {st : StT} {own : String}
theorem krX10_109_X10_putWord_s3 {n : Nat}  {q : StT} (F : CallFix p m c cc nL s args (cw :: Gw) RX10) (K : va_K D vwCl (tyL cy) s) (E : EV ee A s s.heap) (hA : ∀ q, s.heap.size ≤ q → A q) (Z : ZG D (wC ad cy st) A s H locs) (hf : f_X10_putWord_s3 n st = some q) (hR : 5 ≤ R.frames ∧ 107 ≤ R.locals) (hl : ls.size = nL) (hst : (rest.map fun v => v.category).sum ≤ 8) (hd : decode cc pc = .ok (.invokevirtual 109, 3)) (kk : ∀ (H1 : Heap) (locs1 : List Loc), ZG D (wC ad cy q) A s H1 locs1 → W p l e R s m args below meth c H1 locs1 0 0 Q (F0 m (pc + 3) ls (rest))) : W p l e R s m args below meth c H locs 0 0 Q (F0 m pc ls (.ref (ee.1 3) :: .ref (ad 18) :: rest)) :=
  call_V (q := (RX10, TX10, 8)) (n := 1) (As := [.ref (ee.1 3)]) (rv := none) 18 10 F K E hA Z (c_X10_putWord_s3 (l := l) (D := D) (ad := ad) (cy := cy) (ee := ee) hf) ⟨wd539, wd538, wd540, wd541, wd519⟩ (by decide +kernel) rfl rfl hR rfl hl hst hd kk
theorem krX10_109_X10_putWord_s2 {n : Nat}  {q : StT} (F : CallFix p m c cc nL s args (cw :: Gw) RX10) (K : va_K D vwCl (tyL cy) s) (E : EV ee A s s.heap) (hA : ∀ q, s.heap.size ≤ q → A q) (Z : ZG D (wC ad cy st) A s H locs) (hf : f_X10_putWord_s2 n st = some q) (hR : 5 ≤ R.frames ∧ 107 ≤ R.locals) (hl : ls.size = nL) (hst : (rest.map fun v => v.category).sum ≤ 8) (hd : decode cc pc = .ok (.invokevirtual 109, 3)) (kk : ∀ (H1 : Heap) (locs1 : List Loc), ZG D (wC ad cy q) A s H1 locs1 → W p l e R s m args below meth c H1 locs1 0 0 Q (F0 m (pc + 3) ls (rest))) : W p l e R s m args below meth c H locs 0 0 Q (F0 m pc ls (.ref (ee.1 2) :: .ref (ad 18) :: rest)) :=
  call_V (q := (RX10, TX10, 8)) (n := 1) (As := [.ref (ee.1 2)]) (rv := none) 18 10 F K E hA Z (c_X10_putWord_s2 (l := l) (D := D) (ad := ad) (cy := cy) (ee := ee) hf) ⟨wd539, wd538, wd540, wd541, wd519⟩ (by decide +kernel) rfl rfl hR rfl hl hst hd kk
theorem krX10_101_X10_putName {n : Nat} {a0 : Int64} {q : StT} (F : CallFix p m c cc nL s args (cw :: Gw) RX10) (K : va_K D vwCl (tyL cy) s) (E : EV ee A s s.heap) (hA : ∀ q, s.heap.size ≤ q → A q) (Z : ZG D (wC ad cy st) A s H locs) (hf : f_X10_putName n st a0 = some q) (hR : 3 ≤ R.frames ∧ 66 ≤ R.locals) (hl : ls.size = nL) (hst : (rest.map fun v => v.category).sum ≤ 8) (hd : decode cc pc = .ok (.invokevirtual 101, 3)) (kk : ∀ (H1 : Heap) (locs1 : List Loc), ZG D (wC ad cy q) A s H1 locs1 → W p l e R s m args below meth c H1 locs1 0 0 Q (F0 m (pc + 3) ls (rest))) : W p l e R s m args below meth c H locs 0 0 Q (F0 m pc ls (.long a0 :: .ref (ad 18) :: rest)) :=
  call_V (q := (RX10, TX10, 8)) (n := 1) (As := [.long a0]) (rv := none) 18 10 F K E hA Z (c_X10_putName (l := l) (D := D) (ad := ad) (cy := cy) (ee := ee) hf) ⟨wd543, wd542, wd544, wd545, wd519⟩ (by decide +kernel) rfl rfl hR rfl hl hst hd kk
theorem krX10_97_X1_nameOf_F0 {n : Nat} {a0 : Int32} {q : (Int64 × StT)} (F : CallFix p m c cc nL s args (cw :: Gw) RX10) (K : va_K D vwCl (tyL cy) s) (E : EV ee A s s.heap) (hA : ∀ q, s.heap.size ≤ q → A q) (Z : ZG D (wC ad cy st) A s H locs) (hf : f_X1_nameOf_F0 n st a0 = some q) (hR : 2 ≤ R.frames ∧ 42 ≤ R.locals) (hl : ls.size = nL) (hst : (rest.map fun v => v.category).sum ≤ 8) (hd : decode cc pc = .ok (.invokevirtual 97, 3)) (kk : ∀ (H1 : Heap) (locs1 : List Loc), ZG D (wC ad cy q.2) A s H1 locs1 → W p l e R s m args below meth c H1 locs1 0 0 Q (F0 m (pc + 3) ls (.long q.1 :: rest))) : W p l e R s m args below meth c H locs 0 0 Q (F0 m pc ls (.int a0 :: .ref (ad 4) :: rest)) :=
  call_V (q := (RX1, TX1, 9)) (n := 1) (As := [.int a0]) (rv := some (.long q.1)) 4 1 F K E hA Z (c_X1_nameOf_F0 (l := l) (D := D) (ad := ad) (cy := cy) (ee := ee) hf) ⟨wd547, wd546, wd548, wd549, wd17⟩ (by decide +kernel) rfl rfl hR rfl hl hst hd kk
theorem krX10_88_X1_firstOf_F0 {n : Nat} {a0 : Int32} {q : (Int32 × StT)} (F : CallFix p m c cc nL s args (cw :: Gw) RX10) (K : va_K D vwCl (tyL cy) s) (E : EV ee A s s.heap) (hA : ∀ q, s.heap.size ≤ q → A q) (Z : ZG D (wC ad cy st) A s H locs) (hf : f_X1_firstOf_F0 n st a0 = some q) (hR : 2 ≤ R.frames ∧ 42 ≤ R.locals) (hl : ls.size = nL) (hst : (rest.map fun v => v.category).sum ≤ 8) (hd : decode cc pc = .ok (.invokevirtual 88, 3)) (kk : ∀ (H1 : Heap) (locs1 : List Loc), ZG D (wC ad cy q.2) A s H1 locs1 → W p l e R s m args below meth c H1 locs1 0 0 Q (F0 m (pc + 3) ls (.int q.1 :: rest))) : W p l e R s m args below meth c H locs 0 0 Q (F0 m pc ls (.int a0 :: .ref (ad 4) :: rest)) :=
  call_V (q := (RX1, TX1, 9)) (n := 1) (As := [.int a0]) (rv := some (.int q.1)) 4 1 F K E hA Z (c_X1_firstOf_F0 (l := l) (D := D) (ad := ad) (cy := cy) (ee := ee) hf) ⟨wd143, wd550, wd144, wd145, wd17⟩ (by decide +kernel) rfl rfl hR rfl hl hst hd kk
end
set_option maxRecDepth 100000 in
set_option maxHeartbeats 4000000 in
theorem c_X10_putAtom {l : Launch} {D : va_G} {ad : Nat → Nat} {cy : Nat → ClassId} {ee : EE} {n : Nat} {st : StT} {x1 : Int32} {x2 : Int32} {res : StT} (hf : f_X10_putAtom n st x1 x2 = some res) : CT l yX10_putAtom cX10_putAtom 3 none 5 107 D cy ee (wC ad cy st) (wC ad cy res) [.ref (ad 18), .int x1, .int x2] (none) := by
  refine CT.of (by decide +kernel) (Nat.le_of_ble_eq_true rfl) ?_
  intro p e s m args below meth c A F hr hk K E hA Z ls hl
  have hl : lv_has ls 3 [(0, .ref (ad 18)), (1, .int x1), (2, .int x2)] := hl
  have hx := F.1
  have hb := F.2.1
  unfold f_X10_putAtom at hf
  refine lv_iload_n hx hb dX10_putAtom_0 rfl (lv_at hl 1 rfl) ?_
  refine lv_iconst (v := 2) hx hb dX10_putAtom_1 (by decide) ?_
  refine lv_icmp_ne (tgt := 27) hx hb dX10_putAtom_2 (by decide) (fun c2 => ?_) (fun c2 => ?_)
  · have hf := if_f c2 hf
    refine lv_aload_n hx hb dX10_putAtom_27 rfl (lv_at hl 0 rfl) ?_
    refine lv_iload_n hx hb dX10_putAtom_28 rfl (lv_at hl 1 rfl) ?_
    refine lv_iconst (v := 1) hx hb dX10_putAtom_29 (by decide) ?_
    refine lv_icmp_ne (tgt := 38) hx hb dX10_putAtom_30 (by decide) (fun c30 => ?_) (fun c30 => ?_)
    · have hf := if_f c30 hf
      refine va_ldcS hx hb F.2.2.2.1 E.2.2.1.2.2.2.1 dX10_putAtom_38 ?_
      obtain ⟨q40, h40, hf⟩ := bind_some hf
      refine krX10_109_X10_putWord_s3 F K E hA Z h40 ⟨Nat.le_of_ble_eq_true rfl, Nat.le_of_ble_eq_true rfl⟩ hl.1 (Nat.le_of_ble_eq_true rfl) dX10_putAtom_40 (fun H locs Z => ?_)
      have hf := Option.some.inj hf
      subst hf
      exact ret_v F hr hk Z dX10_putAtom_43
    have hf := if_t c30 hf
    refine va_ldcS hx hb F.2.2.2.1 E.2.2.1.2.2.1 dX10_putAtom_33 ?_
    refine lv_goto (tgt := 40) hx hb dX10_putAtom_35 (by decide) ?_
    obtain ⟨q40, h40, hf⟩ := bind_some hf
    refine krX10_109_X10_putWord_s2 F K E hA Z h40 ⟨Nat.le_of_ble_eq_true rfl, Nat.le_of_ble_eq_true rfl⟩ hl.1 (Nat.le_of_ble_eq_true rfl) dX10_putAtom_40 (fun H locs Z => ?_)
    have hf := Option.some.inj hf
    subst hf
    exact ret_v F hr hk Z dX10_putAtom_43
  have hf := if_t c2 hf
  refine lv_aload_n hx hb dX10_putAtom_5 rfl (lv_at hl 0 rfl) ?_
  refine lv_aload_n hx hb dX10_putAtom_6 rfl (lv_at hl 0 rfl) ?_
  refine grX10_25_18 F K Z dX10_putAtom_7 ?_
  refine lv_aload_n hx hb dX10_putAtom_10 rfl (lv_at hl 0 rfl) ?_
  refine grX10_25_18 F K Z dX10_putAtom_11 ?_
  refine lv_iload_n hx hb dX10_putAtom_14 rfl (lv_at hl 2 rfl) ?_
  obtain ⟨q15, h15, hf⟩ := bind_some hf
  refine krX10_88_X1_firstOf_F0 F K E hA Z h15 ⟨Nat.le_of_ble_eq_true rfl, Nat.le_of_ble_eq_true rfl⟩ hl.1 (Nat.le_of_ble_eq_true rfl) dX10_putAtom_15 (fun H locs Z => ?_)
  obtain ⟨q18, h18, hf⟩ := bind_some hf
  refine krX10_97_X1_nameOf_F0 F K E hA Z h18 ⟨Nat.le_of_ble_eq_true rfl, Nat.le_of_ble_eq_true rfl⟩ hl.1 (Nat.le_of_ble_eq_true rfl) dX10_putAtom_18 (fun H locs Z => ?_)
  obtain ⟨q21, h21, hf⟩ := bind_some hf
  refine krX10_101_X10_putName F K E hA Z h21 ⟨Nat.le_of_ble_eq_true rfl, Nat.le_of_ble_eq_true rfl⟩ hl.1 (Nat.le_of_ble_eq_true rfl) dX10_putAtom_21 (fun H locs Z => ?_)
  refine lv_goto (tgt := 43) hx hb dX10_putAtom_24 (by decide) ?_
  have hf := Option.some.inj hf
  subst hf
  exact ret_v F hr hk Z dX10_putAtom_43
def f_X10_putFormula_12 (n : Nat) : Nat → StT → Int32 → Int32 → Option StT
  | 0, _, _, _ => none
  | k + 1, st, x2, x3 => if (16000 : Int32) ≤ x3 then (some st) else (if x2 < 0 then (some st) else (if (2000 : Int32) ≤ x2 then (some st) else ((f_X10_overflows n st).bind fun q31 => (if q31.1 = 0 then (if inB x2 2000 = true then (if inB x2 2000 = true then ((f_X1_kindOf_F0 n q31.2 ((q31.2.2.1 14 (x2).toNatClampNeg) >>> ((2 : Int32) &&& 31))).bind fun q63 => (if inB x2 2000 = true then (if inB x2 2000 = true then (if (3 : Int32) ≤ q63.1 then (if ((q31.2.2.1 14 (x2).toNatClampNeg) &&& (3 : Int32)) = 0 then ((f_X10_put n (uA q63.2 14 x2 ((q63.2.2.1 14 (x2).toNatClampNeg) + (1 : Int32))) (40 : Int32)).bind fun q106 => ((f_X1_firstOf_F0 n q106 ((q31.2.2.1 14 (x2).toNatClampNeg) >>> ((2 : Int32) &&& 31))).bind fun q122 => ((f_X10_begin_21 n q122.2 (x2 + (1 : Int32)) q122.1).bind fun q125 => (f_X10_putFormula_12 n k q125.2 q125.1 (x3 + (1 : Int32)))))) else (if ((q31.2.2.1 14 (x2).toNatClampNeg) &&& (3 : Int32)) = (1 : Int32) then ((f_X10_putSign n (uA q63.2 14 x2 ((q63.2.2.1 14 (x2).toNatClampNeg) + (1 : Int32))) q63.1).bind fun q141 => ((f_X1_secondOf_F0 n q141 ((q31.2.2.1 14 (x2).toNatClampNeg) >>> ((2 : Int32) &&& 31))).bind fun q157 => ((f_X10_begin_21 n q157.2 (x2 + (1 : Int32)) q157.1).bind fun q160 => (f_X10_putFormula_12 n k q160.2 q160.1 (x3 + (1 : Int32)))))) else ((f_X10_put n (uA q63.2 14 x2 ((q63.2.2.1 14 (x2).toNatClampNeg) + (1 : Int32))) (41 : Int32)).bind fun q170 => (f_X10_putFormula_12 n k q170 (x2 + (-1 : Int32)) (x3 + (1 : Int32)))))) else ((f_X10_putAtom n (uA q63.2 14 x2 ((q63.2.2.1 14 (x2).toNatClampNeg) + (1 : Int32))) q63.1 ((q31.2.2.1 14 (x2).toNatClampNeg) >>> ((2 : Int32) &&& 31))).bind fun q89 => (f_X10_putFormula_12 n k q89 (x2 + (-1 : Int32)) (x3 + (1 : Int32))))) else none) else none)) else none) else none) else (some q31.2)))))
def f_X10_putFormula (n : Nat) (st : StT) (x1 : Int32) : Option StT := (f_X10_begin_21 n st (0 : Int32) x1).bind fun q6 => (f_X10_putFormula_12 n n q6.2 q6.1 (0 : Int32))
theorem wd551 : Cond.methodLink RX10 74 yX10_begin ∈ Gw := gT3 (List.mem_of_getElem? (i := 207) rfl) rfl
theorem wd552 : Cond.code yX10_begin prog_12_method_11_code 3 (some .int) ∈ Gw := gT3 (List.mem_of_getElem? (i := 209) rfl) rfl
theorem wd553 : Cond.static yX10_begin ∈ Gw := gT3 (List.mem_of_getElem? (i := 208) rfl) rfl
theorem wd554 : Cond.methodLink RX10 94 yX1_secondOf ∈ Gw := gT4 (List.mem_of_getElem? (i := 29) rfl) rfl
theorem wd555 : Cond.methodLink RX10 91 yX10_putSign ∈ Gw := gT4 (List.mem_of_getElem? (i := 24) rfl) rfl
theorem wd556 : Cond.code yX10_putSign prog_12_method_14_code 2 none ∈ Gw := gT4 (List.mem_of_getElem? (i := 27) rfl) rfl
theorem wd557 : Cond.instanceMethod yX10_putSign ∈ Gw := gT4 (List.mem_of_getElem? (i := 26) rfl) rfl
theorem wd558 : Cond.selects RX10 yX10_putSign yX10_putSign ∈ Gw := gP2 (q := (yX10_putSign, 8)) (List.mem_of_getElem? (i := 8) rfl)
theorem wd559 : Cond.methodLink RX10 84 yX10_putAtom ∈ Gw := gT3 (List.mem_of_getElem? (i := 215) rfl) rfl
theorem wd560 : Cond.code yX10_putAtom prog_12_method_12_code 3 none ∈ Gw := gT3 (List.mem_of_getElem? (i := 218) rfl) rfl
theorem wd561 : Cond.instanceMethod yX10_putAtom ∈ Gw := gT3 (List.mem_of_getElem? (i := 217) rfl) rfl
theorem wd562 : Cond.selects RX10 yX10_putAtom yX10_putAtom ∈ Gw := gP2 (q := (yX10_putAtom, 8)) (List.mem_of_getElem? (i := 4) rfl)
theorem wd563 : Cond.methodLink RX10 78 yX1_kindOf ∈ Gw := gT3 (List.mem_of_getElem? (i := 214) rfl) rfl
theorem wd564 : Cond.methodLink RX10 51 yX10_overflows ∈ Gw := gT3 (List.mem_of_getElem? (i := 210) rfl) rfl
theorem wd565 : Cond.code yX10_overflows prog_12_method_6_code 1 (some .boolean) ∈ Gw := gT3 (List.mem_of_getElem? (i := 213) rfl) rfl
theorem wd566 : Cond.instanceMethod yX10_overflows ∈ Gw := gT3 (List.mem_of_getElem? (i := 212) rfl) rfl
theorem wd567 : Cond.selects RX10 yX10_overflows yX10_overflows ∈ Gw := gP2 (q := (yX10_overflows, 8)) (List.mem_of_getElem? (i := 3) rfl)
section
variable {p : Program} {l : Launch} {e : Env} {R : Room} {s : State} {m : MethodId} {args : Array Value} {below : List Frame} {meth : Method} {c : Code} {H : Heap} {locs : List Loc} {Q : State → Prop}
variable {cc : ByteArray} {nL pc : Nat} {ls : Array Slot} {rest : List Value} {D : va_G} {A : Nat → Prop} {cw : Cond} {ad : Nat → Nat} {cy : Nat → ClassId} {ee : EE} {st : StT} {own : String}
theorem krX10_74_X10_begin_21 {n : Nat} {a1 : Int32} {a2 : Int32} {q : (Int32 × StT)} (F : CallFix p m c cc nL s args (cw :: Gw) RX10) (K : va_K D vwCl (tyL cy) s) (E : EV ee A s s.heap) (hA : ∀ q, s.heap.size ≤ q → A q) (Z : ZG D (wC ad cy st) A s H locs) (hf : f_X10_begin_21 n st a1 a2 = some q) (hR : 1 ≤ R.frames ∧ 22 ≤ R.locals) (hl : ls.size = nL) (hst : (rest.map fun v => v.category).sum ≤ 8) (hd : decode cc pc = .ok (.invokestatic 74, 3)) (kk : ∀ (H1 : Heap) (locs1 : List Loc), ZG D (wC ad cy q.2) A s H1 locs1 → W p l e R s m args below meth c H1 locs1 0 0 Q (F0 m (pc + 3) ls (.int q.1 :: rest))) : W p l e R s m args below meth c H locs 0 0 Q (F0 m pc ls (.int a2 :: .int a1 :: .ref (ad 21) :: rest)) :=
  call_S (n := 3) (As := [.ref (ad 21), .int a1, .int a2]) (rv := some (.int q.1)) F K E hA Z (c_X10_begin_21 (l := l) (D := D) (ad := ad) (cy := cy) (ee := ee) hf) ⟨wd552, wd551, wd553, wd519⟩ (by decide +kernel) hR rfl hl hst hd kk
theorem krX10_94_X1_secondOf_F0 {n : Nat} {a0 : Int32} {q : (Int32 × StT)} (F : CallFix p m c cc nL s args (cw :: Gw) RX10) (K : va_K D vwCl (tyL cy) s) (E : EV ee A s s.heap) (hA : ∀ q, s.heap.size ≤ q → A q) (Z : ZG D (wC ad cy st) A s H locs) (hf : f_X1_secondOf_F0 n st a0 = some q) (hR : 2 ≤ R.frames ∧ 42 ≤ R.locals) (hl : ls.size = nL) (hst : (rest.map fun v => v.category).sum ≤ 8) (hd : decode cc pc = .ok (.invokevirtual 94, 3)) (kk : ∀ (H1 : Heap) (locs1 : List Loc), ZG D (wC ad cy q.2) A s H1 locs1 → W p l e R s m args below meth c H1 locs1 0 0 Q (F0 m (pc + 3) ls (.int q.1 :: rest))) : W p l e R s m args below meth c H locs 0 0 Q (F0 m pc ls (.int a0 :: .ref (ad 4) :: rest)) :=
  call_V (q := (RX1, TX1, 9)) (n := 1) (As := [.int a0]) (rv := some (.int q.1)) 4 1 F K E hA Z (c_X1_secondOf_F0 (l := l) (D := D) (ad := ad) (cy := cy) (ee := ee) hf) ⟨wd199, wd554, wd200, wd201, wd17⟩ (by decide +kernel) rfl rfl hR rfl hl hst hd kk
theorem krX10_91_X10_putSign {n : Nat} {a0 : Int32} {q : StT} (F : CallFix p m c cc nL s args (cw :: Gw) RX10) (K : va_K D vwCl (tyL cy) s) (E : EV ee A s s.heap) (hA : ∀ q, s.heap.size ≤ q → A q) (Z : ZG D (wC ad cy st) A s H locs) (hf : f_X10_putSign n st a0 = some q) (hR : 6 ≤ R.frames ∧ 128 ≤ R.locals) (hl : ls.size = nL) (hst : (rest.map fun v => v.category).sum ≤ 8) (hd : decode cc pc = .ok (.invokevirtual 91, 3)) (kk : ∀ (H1 : Heap) (locs1 : List Loc), ZG D (wC ad cy q) A s H1 locs1 → W p l e R s m args below meth c H1 locs1 0 0 Q (F0 m (pc + 3) ls (rest))) : W p l e R s m args below meth c H locs 0 0 Q (F0 m pc ls (.int a0 :: .ref (ad 18) :: rest)) :=
  call_V (q := (RX10, TX10, 8)) (n := 1) (As := [.int a0]) (rv := none) 18 10 F K E hA Z (c_X10_putSign (l := l) (D := D) (ad := ad) (cy := cy) (ee := ee) hf) ⟨wd556, wd555, wd557, wd558, wd519⟩ (by decide +kernel) rfl rfl hR rfl hl hst hd kk
theorem krX10_84_X10_putAtom {n : Nat} {a0 : Int32} {a1 : Int32} {q : StT} (F : CallFix p m c cc nL s args (cw :: Gw) RX10) (K : va_K D vwCl (tyL cy) s) (E : EV ee A s s.heap) (hA : ∀ q, s.heap.size ≤ q → A q) (Z : ZG D (wC ad cy st) A s H locs) (hf : f_X10_putAtom n st a0 a1 = some q) (hR : 6 ≤ R.frames ∧ 129 ≤ R.locals) (hl : ls.size = nL) (hst : (rest.map fun v => v.category).sum ≤ 8) (hd : decode cc pc = .ok (.invokevirtual 84, 3)) (kk : ∀ (H1 : Heap) (locs1 : List Loc), ZG D (wC ad cy q) A s H1 locs1 → W p l e R s m args below meth c H1 locs1 0 0 Q (F0 m (pc + 3) ls (rest))) : W p l e R s m args below meth c H locs 0 0 Q (F0 m pc ls (.int a1 :: .int a0 :: .ref (ad 18) :: rest)) :=
  call_V (q := (RX10, TX10, 8)) (n := 2) (As := [.int a0, .int a1]) (rv := none) 18 10 F K E hA Z (c_X10_putAtom (l := l) (D := D) (ad := ad) (cy := cy) (ee := ee) hf) ⟨wd560, wd559, wd561, wd562, wd519⟩ (by decide +kernel) rfl rfl hR rfl hl hst hd kk
theorem krX10_78_X1_kindOf_F0 {n : Nat} {a0 : Int32} {q : (Int32 × StT)} (F : CallFix p m c cc nL s args (cw :: Gw) RX10) (K : va_K D vwCl (tyL cy) s) (E : EV ee A s s.heap) (hA : ∀ q, s.heap.size ≤ q → A q) (Z : ZG D (wC ad cy st) A s H locs) (hf : f_X1_kindOf_F0 n st a0 = some q) (hR : 2 ≤ R.frames ∧ 42 ≤ R.locals) (hl : ls.size = nL) (hst : (rest.map fun v => v.category).sum ≤ 8) (hd : decode cc pc = .ok (.invokevirtual 78, 3)) (kk : ∀ (H1 : Heap) (locs1 : List Loc), ZG D (wC ad cy q.2) A s H1 locs1 → W p l e R s m args below meth c H1 locs1 0 0 Q (F0 m (pc + 3) ls (.int q.1 :: rest))) : W p l e R s m args below meth c H locs 0 0 Q (F0 m pc ls (.int a0 :: .ref (ad 4) :: rest)) :=
  call_V (q := (RX1, TX1, 9)) (n := 1) (As := [.int a0]) (rv := some (.int q.1)) 4 1 F K E hA Z (c_X1_kindOf_F0 (l := l) (D := D) (ad := ad) (cy := cy) (ee := ee) hf) ⟨wd147, wd563, wd148, wd149, wd17⟩ (by decide +kernel) rfl rfl hR rfl hl hst hd kk
theorem krX10_51_X10_overflows {n : Nat}  {q : (Int32 × StT)} (F : CallFix p m c cc nL s args (cw :: Gw) RX10) (K : va_K D vwCl (tyL cy) s) (E : EV ee A s s.heap) (hA : ∀ q, s.heap.size ≤ q → A q) (Z : ZG D (wC ad cy st) A s H locs) (hf : f_X10_overflows n st = some q) (hR : 1 ≤ R.frames ∧ 20 ≤ R.locals) (hl : ls.size = nL) (hst : (rest.map fun v => v.category).sum ≤ 8) (hd : decode cc pc = .ok (.invokevirtual 51, 3)) (kk : ∀ (H1 : Heap) (locs1 : List Loc), ZG D (wC ad cy q.2) A s H1 locs1 → W p l e R s m args below meth c H1 locs1 0 0 Q (F0 m (pc + 3) ls (.int q.1 :: rest))) : W p l e R s m args below meth c H locs 0 0 Q (F0 m pc ls (.ref (ad 18) :: rest)) :=
  call_V (q := (RX10, TX10, 8)) (n := 0) (As := []) (rv := some (.int q.1)) 18 10 F K E hA Z (c_X10_overflows (l := l) (D := D) (ad := ad) (cy := cy) (ee := ee) hf) ⟨wd565, wd564, wd566, wd567, wd519⟩ (by decide +kernel) rfl rfl hR rfl hl hst hd kk
end
set_option maxRecDepth 100000 in
set_option maxHeartbeats 4000000 in
theorem b_X10_putFormula_12 {p : Program} {l : Launch} {e : Env} {s : State} {m : MethodId} {args : Array Value} {below : List Frame} {meth : Method} {c : Code} {D : va_G} {A : Nat → Prop} {ad : Nat → Nat} {cy : Nat → ClassId} {ee : EE} {n : Nat} {res : StT} (F : CallFix p m c cX10_putFormula 7 s args (Cond.code yX10_putFormula cX10_putFormula 7 none :: Gw) yX10_putFormula.cls) (hr : meth.sig.returnType = none) (hk : meth.locks = false) (K : va_K D vwCl (tyL cy) s) (E : EV ee A s s.heap) (hA : ∀ q, s.heap.size ≤ q → A q) : ∀ (k : Nat) (st : StT) (x2 : Int32) (x3 : Int32), f_X10_putFormula_12 n k st x2 x3 = some res → ∀ (H : Heap) (locs : List Loc) (ls : Array Slot), ZG D (wC ad cy st) A s H locs → lv_has ls 7 [(0, .ref (ad 18)), (2, .int x2), (3, .int x3)] → W p l e { frames := 6, cells := 0, slots := 0, locals := 129 } s m args below meth c H locs 0 0 (MQ below (QC D (none) (wC ad cy res) A) args s 0 0 A) (F0 m 12 ls []) := by
  have hx := F.1
  have hb := F.2.1
  intro k
  induction k with
  | zero =>
    intro st x2 x3 hf
    exact absurd hf (by simp [f_X10_putFormula_12])
  | succ k ih =>
    intro st x2 x3 hf H locs ls Z hl
    rw [f_X10_putFormula_12] at hf
    refine lv_iload_n hx hb dX10_putFormula_12 rfl (lv_at hl 2 rfl) ?_
    refine lv_sipush (v := 16000) hx hb dX10_putFormula_13 (by decide) ?_
    refine lv_icmp_ge (tgt := 182) hx hb dX10_putFormula_16 (by decide) (fun c16 => ?_) (fun c16 => ?_)
    · have hf := if_t c16 hf
      have hf := Option.some.inj hf
      subst hf
      exact ret_v F hr hk Z dX10_putFormula_182
    have hf := if_f c16 hf
    refine lv_iload_n hx hb dX10_putFormula_19 rfl (lv_at hl 1 rfl) ?_
    refine lv_if_lt (tgt := 182) hx hb dX10_putFormula_20 (by decide) (fun c20 => ?_) (fun c20 => ?_)
    · have hf := if_t c20 hf
      have hf := Option.some.inj hf
      subst hf
      exact ret_v F hr hk Z dX10_putFormula_182
    have hf := if_f c20 hf
    refine lv_iload_n hx hb dX10_putFormula_23 rfl (lv_at hl 1 rfl) ?_
    refine lv_sipush (v := 2000) hx hb dX10_putFormula_24 (by decide) ?_
    refine lv_icmp_ge (tgt := 182) hx hb dX10_putFormula_27 (by decide) (fun c27 => ?_) (fun c27 => ?_)
    · have hf := if_t c27 hf
      have hf := Option.some.inj hf
      subst hf
      exact ret_v F hr hk Z dX10_putFormula_182
    have hf := if_f c27 hf
    refine lv_aload_n hx hb dX10_putFormula_30 rfl (lv_at hl 0 rfl) ?_
    obtain ⟨q31, h31, hf⟩ := bind_some hf
    refine krX10_51_X10_overflows F K E hA Z h31 ⟨Nat.le_of_ble_eq_true rfl, Nat.le_of_ble_eq_true rfl⟩ hl.1 (Nat.le_of_ble_eq_true rfl) dX10_putFormula_31 (fun H locs Z => ?_)
    refine lv_if_ne (tgt := 182) hx hb dX10_putFormula_34 (by decide) (fun c34 => ?_) (fun c34 => ?_)
    · have hf := if_f c34 hf
      have hf := Option.some.inj hf
      subst hf
      exact ret_v F hr hk Z dX10_putFormula_182
    have hf := if_t c34 hf
    refine lv_aload_n hx hb dX10_putFormula_37 rfl (lv_at hl 0 rfl) ?_
    refine grX10_18_18 F K Z dX10_putFormula_38 ?_
    refine lv_iload_n hx hb dX10_putFormula_41 rfl (lv_at hl 1 rfl) ?_
    obtain ⟨i42, hf⟩ := if_some hf
    refine al21 F K Z i42 dX10_putFormula_42 ?_
    refine lv_iconst (v := 2) hx hb dX10_putFormula_43 (by decide) ?_
    refine lv_ishr hx hb dX10_putFormula_44 ?_
    refine lv_istore (lv' := [(4, .int ((q31.2.2.1 14 (x2).toNatClampNeg) >>> ((2 : Int32) &&& 31))), (0, .ref (ad 18)), (2, .int x2), (3, .int x3)]) hx hb dX10_putFormula_45 hl (by decide) rfl (fun ls hl => ?_)
    refine lv_aload_n hx hb dX10_putFormula_47 rfl (lv_at hl 1 rfl) ?_
    refine grX10_18_18 F K Z dX10_putFormula_48 ?_
    refine lv_iload_n hx hb dX10_putFormula_51 rfl (lv_at hl 2 rfl) ?_
    obtain ⟨i52, hf⟩ := if_some hf
    refine al21 F K Z i52 dX10_putFormula_52 ?_
    refine lv_iconst (v := 3) hx hb dX10_putFormula_53 (by decide) ?_
    refine lv_iand hx hb dX10_putFormula_54 ?_
    refine lv_istore (lv' := [(5, .int ((q31.2.2.1 14 (x2).toNatClampNeg) &&& (3 : Int32))), (4, .int ((q31.2.2.1 14 (x2).toNatClampNeg) >>> ((2 : Int32) &&& 31))), (0, .ref (ad 18)), (2, .int x2), (3, .int x3)]) hx hb dX10_putFormula_55 hl (by decide) rfl (fun ls hl => ?_)
    refine lv_aload_n hx hb dX10_putFormula_57 rfl (lv_at hl 2 rfl) ?_
    refine grX10_25_18 F K Z dX10_putFormula_58 ?_
    refine lv_iload hx hb dX10_putFormula_61 (lv_at hl 1 rfl) ?_
    obtain ⟨q63, h63, hf⟩ := bind_some hf
    refine krX10_78_X1_kindOf_F0 F K E hA Z h63 ⟨Nat.le_of_ble_eq_true rfl, Nat.le_of_ble_eq_true rfl⟩ hl.1 (Nat.le_of_ble_eq_true rfl) dX10_putFormula_63 (fun H locs Z => ?_)
    refine lv_istore (lv' := [(6, .int q63.1), (5, .int ((q31.2.2.1 14 (x2).toNatClampNeg) &&& (3 : Int32))), (4, .int ((q31.2.2.1 14 (x2).toNatClampNeg) >>> ((2 : Int32) &&& 31))), (0, .ref (ad 18)), (2, .int x2), (3, .int x3)]) hx hb dX10_putFormula_66 hl (by decide) rfl (fun ls hl => ?_)
    refine lv_aload_n hx hb dX10_putFormula_68 rfl (lv_at hl 3 rfl) ?_
    refine grX10_18_18 F K Z dX10_putFormula_69 ?_
    refine lv_iload_n hx hb dX10_putFormula_72 rfl (lv_at hl 4 rfl) ?_
    refine lv_dup2_11 hx hb dX10_putFormula_73 rfl rfl ?_
    obtain ⟨i74, hf⟩ := if_some hf
    refine al21 F K Z i74 dX10_putFormula_74 ?_
    refine lv_iconst (v := 1) hx hb dX10_putFormula_75 (by decide) ?_
    refine lv_iadd hx hb dX10_putFormula_76 ?_
    obtain ⟨i77, hf⟩ := if_some hf
    refine as21 F K Z i77 dX10_putFormula_77 (fun H locs Z => ?_)
    refine lv_iload hx hb dX10_putFormula_78 (lv_at hl 0 rfl) ?_
    refine lv_iconst (v := 3) hx hb dX10_putFormula_80 (by decide) ?_
    refine lv_icmp_ge (tgt := 98) hx hb dX10_putFormula_81 (by decide) (fun c81 => ?_) (fun c81 => ?_)
    · have hf := if_t c81 hf
      refine lv_iload hx hb dX10_putFormula_98 (lv_at hl 1 rfl) ?_
      refine lv_if_ne (tgt := 132) hx hb dX10_putFormula_100 (by decide) (fun c100 => ?_) (fun c100 => ?_)
      · have hf := if_f c100 hf
        refine lv_iload hx hb dX10_putFormula_132 (lv_at hl 1 rfl) ?_
        refine lv_iconst (v := 1) hx hb dX10_putFormula_134 (by decide) ?_
        refine lv_icmp_ne (tgt := 167) hx hb dX10_putFormula_135 (by decide) (fun c135 => ?_) (fun c135 => ?_)
        · have hf := if_f c135 hf
          refine lv_aload_n hx hb dX10_putFormula_167 rfl (lv_at hl 3 rfl) ?_
          refine lv_bipush (v := 41) hx hb dX10_putFormula_168 (by decide) ?_
          obtain ⟨q170, h170, hf⟩ := bind_some hf
          refine krX10_70_X10_put F K E hA Z h170 ⟨Nat.le_of_ble_eq_true rfl, Nat.le_of_ble_eq_true rfl⟩ hl.1 (Nat.le_of_ble_eq_true rfl) dX10_putFormula_170 (fun H locs Z => ?_)
          refine lv_iinc (v := (x2 + (-1 : Int32))) (lv' := [(2, .int (x2 + (-1 : Int32))), (6, .int q63.1), (5, .int ((q31.2.2.1 14 (x2).toNatClampNeg) &&& (3 : Int32))), (4, .int ((q31.2.2.1 14 (x2).toNatClampNeg) >>> ((2 : Int32) &&& 31))), (0, .ref (ad 18)), (3, .int x3)]) hx hb dX10_putFormula_173 hl (k := 4) rfl (congrArg (fun z => x2 + z) (by decide)) (by decide) rfl (fun ls hl => ?_)
          refine lv_iinc (v := (x3 + (1 : Int32))) (lv' := [(3, .int (x3 + (1 : Int32))), (2, .int (x2 + (-1 : Int32))), (6, .int q63.1), (5, .int ((q31.2.2.1 14 (x2).toNatClampNeg) &&& (3 : Int32))), (4, .int ((q31.2.2.1 14 (x2).toNatClampNeg) >>> ((2 : Int32) &&& 31))), (0, .ref (ad 18))]) hx hb dX10_putFormula_176 hl (k := 5) rfl (congrArg (fun z => x3 + z) (by decide)) (by decide) rfl (fun ls hl => ?_)
          refine lv_goto (tgt := 12) hx hb dX10_putFormula_179 (by decide) ?_
          exact ih _ _ _ hf _ _ _ Z (lv_sub hl [5, 1, 0] rfl)
        have hf := if_t c135 hf
        refine lv_aload_n hx hb dX10_putFormula_138 rfl (lv_at hl 3 rfl) ?_
        refine lv_iload hx hb dX10_putFormula_139 (lv_at hl 0 rfl) ?_
        obtain ⟨q141, h141, hf⟩ := bind_some hf
        refine krX10_91_X10_putSign F K E hA Z h141 ⟨Nat.le_of_ble_eq_true rfl, Nat.le_of_ble_eq_true rfl⟩ hl.1 (Nat.le_of_ble_eq_true rfl) dX10_putFormula_141 (fun H locs Z => ?_)
        refine lv_aload_n hx hb dX10_putFormula_144 rfl (lv_at hl 3 rfl) ?_
        refine grX10_18_18 F K Z dX10_putFormula_145 ?_
        refine lv_iload_n hx hb dX10_putFormula_148 rfl (lv_at hl 4 rfl) ?_
        refine lv_iconst (v := 1) hx hb dX10_putFormula_149 (by decide) ?_
        refine lv_iadd hx hb dX10_putFormula_150 ?_
        refine lv_aload_n hx hb dX10_putFormula_151 rfl (lv_at hl 3 rfl) ?_
        refine grX10_25_18 F K Z dX10_putFormula_152 ?_
        refine lv_iload hx hb dX10_putFormula_155 (lv_at hl 2 rfl) ?_
        obtain ⟨q157, h157, hf⟩ := bind_some hf
        refine krX10_94_X1_secondOf_F0 F K E hA Z h157 ⟨Nat.le_of_ble_eq_true rfl, Nat.le_of_ble_eq_true rfl⟩ hl.1 (Nat.le_of_ble_eq_true rfl) dX10_putFormula_157 (fun H locs Z => ?_)
        obtain ⟨q160, h160, hf⟩ := bind_some hf
        refine krX10_74_X10_begin_21 F K E hA Z h160 ⟨Nat.le_of_ble_eq_true rfl, Nat.le_of_ble_eq_true rfl⟩ hl.1 (Nat.le_of_ble_eq_true rfl) dX10_putFormula_160 (fun H locs Z => ?_)
        refine lv_istore_n (lv' := [(2, .int q160.1), (6, .int q63.1), (5, .int ((q31.2.2.1 14 (x2).toNatClampNeg) &&& (3 : Int32))), (4, .int ((q31.2.2.1 14 (x2).toNatClampNeg) >>> ((2 : Int32) &&& 31))), (0, .ref (ad 18)), (3, .int x3)]) hx hb dX10_putFormula_163 rfl hl (by decide) rfl (fun ls hl => ?_)
        refine lv_goto (tgt := 176) hx hb dX10_putFormula_164 (by decide) ?_
        refine lv_iinc (v := (x3 + (1 : Int32))) (lv' := [(3, .int (x3 + (1 : Int32))), (2, .int q160.1), (6, .int q63.1), (5, .int ((q31.2.2.1 14 (x2).toNatClampNeg) &&& (3 : Int32))), (4, .int ((q31.2.2.1 14 (x2).toNatClampNeg) >>> ((2 : Int32) &&& 31))), (0, .ref (ad 18))]) hx hb dX10_putFormula_176 hl (k := 5) rfl (congrArg (fun z => x3 + z) (by decide)) (by decide) rfl (fun ls hl => ?_)
        refine lv_goto (tgt := 12) hx hb dX10_putFormula_179 (by decide) ?_
        exact ih _ _ _ hf _ _ _ Z (lv_sub hl [5, 1, 0] rfl)
      have hf := if_t c100 hf
      refine lv_aload_n hx hb dX10_putFormula_103 rfl (lv_at hl 3 rfl) ?_
      refine lv_bipush (v := 40) hx hb dX10_putFormula_104 (by decide) ?_
      obtain ⟨q106, h106, hf⟩ := bind_some hf
      refine krX10_70_X10_put F K E hA Z h106 ⟨Nat.le_of_ble_eq_true rfl, Nat.le_of_ble_eq_true rfl⟩ hl.1 (Nat.le_of_ble_eq_true rfl) dX10_putFormula_106 (fun H locs Z => ?_)
      refine lv_aload_n hx hb dX10_putFormula_109 rfl (lv_at hl 3 rfl) ?_
      refine grX10_18_18 F K Z dX10_putFormula_110 ?_
      refine lv_iload_n hx hb dX10_putFormula_113 rfl (lv_at hl 4 rfl) ?_
      refine lv_iconst (v := 1) hx hb dX10_putFormula_114 (by decide) ?_
      refine lv_iadd hx hb dX10_putFormula_115 ?_
      refine lv_aload_n hx hb dX10_putFormula_116 rfl (lv_at hl 3 rfl) ?_
      refine grX10_25_18 F K Z dX10_putFormula_117 ?_
      refine lv_iload hx hb dX10_putFormula_120 (lv_at hl 2 rfl) ?_
      obtain ⟨q122, h122, hf⟩ := bind_some hf
      refine krX10_88_X1_firstOf_F0 F K E hA Z h122 ⟨Nat.le_of_ble_eq_true rfl, Nat.le_of_ble_eq_true rfl⟩ hl.1 (Nat.le_of_ble_eq_true rfl) dX10_putFormula_122 (fun H locs Z => ?_)
      obtain ⟨q125, h125, hf⟩ := bind_some hf
      refine krX10_74_X10_begin_21 F K E hA Z h125 ⟨Nat.le_of_ble_eq_true rfl, Nat.le_of_ble_eq_true rfl⟩ hl.1 (Nat.le_of_ble_eq_true rfl) dX10_putFormula_125 (fun H locs Z => ?_)
      refine lv_istore_n (lv' := [(2, .int q125.1), (6, .int q63.1), (5, .int ((q31.2.2.1 14 (x2).toNatClampNeg) &&& (3 : Int32))), (4, .int ((q31.2.2.1 14 (x2).toNatClampNeg) >>> ((2 : Int32) &&& 31))), (0, .ref (ad 18)), (3, .int x3)]) hx hb dX10_putFormula_128 rfl hl (by decide) rfl (fun ls hl => ?_)
      refine lv_goto (tgt := 176) hx hb dX10_putFormula_129 (by decide) ?_
      refine lv_iinc (v := (x3 + (1 : Int32))) (lv' := [(3, .int (x3 + (1 : Int32))), (2, .int q125.1), (6, .int q63.1), (5, .int ((q31.2.2.1 14 (x2).toNatClampNeg) &&& (3 : Int32))), (4, .int ((q31.2.2.1 14 (x2).toNatClampNeg) >>> ((2 : Int32) &&& 31))), (0, .ref (ad 18))]) hx hb dX10_putFormula_176 hl (k := 5) rfl (congrArg (fun z => x3 + z) (by decide)) (by decide) rfl (fun ls hl => ?_)
      refine lv_goto (tgt := 12) hx hb dX10_putFormula_179 (by decide) ?_
      exact ih _ _ _ hf _ _ _ Z (lv_sub hl [5, 1, 0] rfl)
    have hf := if_f c81 hf
    refine lv_aload_n hx hb dX10_putFormula_84 rfl (lv_at hl 3 rfl) ?_
    refine lv_iload hx hb dX10_putFormula_85 (lv_at hl 0 rfl) ?_
    refine lv_iload hx hb dX10_putFormula_87 (lv_at hl 2 rfl) ?_
    obtain ⟨q89, h89, hf⟩ := bind_some hf
    refine krX10_84_X10_putAtom F K E hA Z h89 ⟨Nat.le_of_ble_eq_true rfl, Nat.le_of_ble_eq_true rfl⟩ hl.1 (Nat.le_of_ble_eq_true rfl) dX10_putFormula_89 (fun H locs Z => ?_)
    refine lv_iinc (v := (x2 + (-1 : Int32))) (lv' := [(2, .int (x2 + (-1 : Int32))), (6, .int q63.1), (5, .int ((q31.2.2.1 14 (x2).toNatClampNeg) &&& (3 : Int32))), (4, .int ((q31.2.2.1 14 (x2).toNatClampNeg) >>> ((2 : Int32) &&& 31))), (0, .ref (ad 18)), (3, .int x3)]) hx hb dX10_putFormula_92 hl (k := 4) rfl (congrArg (fun z => x2 + z) (by decide)) (by decide) rfl (fun ls hl => ?_)
    refine lv_goto (tgt := 176) hx hb dX10_putFormula_95 (by decide) ?_
    refine lv_iinc (v := (x3 + (1 : Int32))) (lv' := [(3, .int (x3 + (1 : Int32))), (2, .int (x2 + (-1 : Int32))), (6, .int q63.1), (5, .int ((q31.2.2.1 14 (x2).toNatClampNeg) &&& (3 : Int32))), (4, .int ((q31.2.2.1 14 (x2).toNatClampNeg) >>> ((2 : Int32) &&& 31))), (0, .ref (ad 18))]) hx hb dX10_putFormula_176 hl (k := 5) rfl (congrArg (fun z => x3 + z) (by decide)) (by decide) rfl (fun ls hl => ?_)
    refine lv_goto (tgt := 12) hx hb dX10_putFormula_179 (by decide) ?_
    exact ih _ _ _ hf _ _ _ Z (lv_sub hl [5, 1, 0] rfl)
set_option maxRecDepth 100000 in
set_option maxHeartbeats 4000000 in
theorem c_X10_putFormula {l : Launch} {D : va_G} {ad : Nat → Nat} {cy : Nat → ClassId} {ee : EE} {n : Nat} {st : StT} {x1 : Int32} {res : StT} (hf : f_X10_putFormula n st x1 = some res) : CT l yX10_putFormula cX10_putFormula 7 none 6 129 D cy ee (wC ad cy st) (wC ad cy res) [.ref (ad 18), .int x1] (none) := by
  refine CT.of (by decide +kernel) (Nat.le_of_ble_eq_true rfl) ?_
  intro p e s m args below meth c A F hr hk K E hA Z ls hl
  have hl : lv_has ls 7 [(0, .ref (ad 18)), (1, .int x1)] := hl
  have hx := F.1
  have hb := F.2.1
  unfold f_X10_putFormula at hf
  refine lv_aload_n hx hb dX10_putFormula_0 rfl (lv_at hl 0 rfl) ?_
  refine grX10_18_18 F K Z dX10_putFormula_1 ?_
  refine lv_iconst (v := 0) hx hb dX10_putFormula_4 (by decide) ?_
  refine lv_iload_n hx hb dX10_putFormula_5 rfl (lv_at hl 1 rfl) ?_
  obtain ⟨q6, h6, hf⟩ := bind_some hf
  refine krX10_74_X10_begin_21 F K E hA Z h6 ⟨Nat.le_of_ble_eq_true rfl, Nat.le_of_ble_eq_true rfl⟩ hl.1 (Nat.le_of_ble_eq_true rfl) dX10_putFormula_6 (fun H locs Z => ?_)
  refine lv_istore_n (lv' := [(2, .int q6.1), (0, .ref (ad 18)), (1, .int x1)]) hx hb dX10_putFormula_9 rfl hl (by decide) rfl (fun ls hl => ?_)
  refine lv_iconst (v := 0) hx hb dX10_putFormula_10 (by decide) ?_
  refine lv_istore_n (lv' := [(3, .int (0 : Int32)), (2, .int q6.1), (0, .ref (ad 18)), (1, .int x1)]) hx hb dX10_putFormula_11 rfl hl (by decide) rfl (fun ls hl => ?_)
  exact b_X10_putFormula_12 F hr hk K E hA _ _ _ _ hf _ _ _ Z (lv_sub hl [2, 1, 0] rfl)
