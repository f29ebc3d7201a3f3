def f_X8_byteAt (n : Nat) (st : StT) (x1 : Int32) : Option (Int32 × StT) := if x1 < 0 then (some ((-1 : Int32), st)) else (if (st.1 0) ≤ x1 then (some ((-1 : Int32), st)) else (if (3000 : Int32) ≤ x1 then (some ((-1 : Int32), st)) else (if inB x1 3000 = true then (some (((st.2.1 1 (x1).toNatClampNeg) &&& (255 : Int32)), st)) else none)))
theorem wd421 : Cond.laysFinal RX8 "WorldProver$Tokens" "bytes" "[B" ∈ Gw := gT1 (List.mem_of_getElem? (i := 44) rfl) rfl
theorem wd422 : Cond.lays RX8 "WorldProver$Tokens" "length" "I" ∈ Gw := gT1 (List.mem_of_getElem? (i := 46) rfl) rfl
theorem wd423 : Cond.lays RX8 "WorldProver$Tokens" "ofTerms" "Z" ∈ Gw := gT1 (List.mem_of_getElem? (i := 48) rfl) rfl
theorem wd424 : Cond.lays RX8 "WorldProver$Tokens" "looked" "Z" ∈ Gw := gT1 (List.mem_of_getElem? (i := 50) rfl) rfl
theorem wd425 : Cond.lays RX8 "WorldProver$Tokens" "kind" "I" ∈ Gw := gT1 (List.mem_of_getElem? (i := 52) rfl) rfl
theorem wd426 : Cond.lays RX8 "WorldProver$Tokens" "start" "I" ∈ Gw := gT1 (List.mem_of_getElem? (i := 54) rfl) rfl
theorem wd427 : Cond.lays RX8 "WorldProver$Tokens" "end" "I" ∈ Gw := gT1 (List.mem_of_getElem? (i := 56) rfl) rfl
theorem wd428 : Cond.lays RX8 "WorldProver$Tokens" "name" "J" ∈ Gw := gT1 (List.mem_of_getElem? (i := 58) rfl) rfl
theorem wd429 : Cond.fieldLink RX8 15 "WorldProver$Tokens" "length" "I" ∈ Gw := gT1 (List.mem_of_getElem? (i := 37) rfl) rfl
theorem wd430 : Cond.fieldLink RX8 9 "WorldProver$Tokens" "bytes" "[B" ∈ Gw := gT1 (List.mem_of_getElem? (i := 36) rfl) rfl
theorem inG_X8 : ∀ w ∈ u_ws RX8 TX8 8, w ∈ Gw := by
  intro w h
  obtain ⟨k, hk, rfl⟩ := List.mem_map.mp h
  have hk := List.mem_range.mp hk
  by_cases h0 : k = 0
  · subst h0; exact wd421
  by_cases h1 : k = 1
  · subst h1; exact wd422
  by_cases h2 : k = 2
  · subst h2; exact wd423
  by_cases h3 : k = 3
  · subst h3; exact wd424
  by_cases h4 : k = 4
  · subst h4; exact wd425
  by_cases h5 : k = 5
  · subst h5; exact wd426
  by_cases h6 : k = 6
  · subst h6; exact wd427
  by_cases h7 : k = 7
  · subst h7; exact wd428
  omega
section
variable {p : Program} {l : Launch} {e : Env} {R : Room} {s : State} {m : MethodId} {args : Array Value} {below : List Frame} {meth : Method} {c : Code} {H : Heap} {locs : List Loc} {Q : State → Prop}
variable {cc : ByteArray} {nL pc : Nat} {ls : Array Slot} {rest : List Value} {D : va_G} {A : Nat → Prop} {cw : Cond} {ad : Nat → Nat} {cy : Nat → ClassId} {ee : EE} {st : StT} {own : String}
theorem grX8_15_2 (F : CallFix p m c cc nL s args (cw :: Gw) RX8) (K : va_K D vwCl (tyL cy) s) (Z : ZG D (wC ad cy st) A s H locs) (hd : decode cc pc = .ok (.getfield 15, 3)) (kk : W p l e R s m args below meth c H locs 0 0 Q (F0 m (pc + 3) ls (.int (st.1 0) :: rest))) : W p l e R s m args below meth c H locs 0 0 Q (F0 m pc ls (.ref (ad 2) :: rest)) :=
  va_get (D := D) (ci := 8) (C := RX8) (T := TX8) (N := 8) F.1 F.2.1 F.2.2.2.2 (fun w h => List.mem_cons_of_mem _ (inG_X8 w h)) F.2.2.2.1 K Z.1 2 rfl rfl 1 (by decide) (F.2.2.2.2 _ (List.mem_cons_of_mem _ wd429)) (fun _ h => h) rfl hd kk
theorem grX8_9_2 (F : CallFix p m c cc nL s args (cw :: Gw) RX8) (K : va_K D vwCl (tyL cy) s) (Z : ZG D (wC ad cy st) A s H locs) (hd : decode cc pc = .ok (.getfield 9, 3)) (kk : W p l e R s m args below meth c H locs 0 0 Q (F0 m (pc + 3) ls (.ref (ad 3) :: rest))) : W p l e R s m args below meth c H locs 0 0 Q (F0 m pc ls (.ref (ad 2) :: rest)) :=
  va_get (D := D) (ci := 8) (C := RX8) (T := TX8) (N := 8) F.1 F.2.1 F.2.2.2.2 (fun w h => List.mem_cons_of_mem _ (inG_X8 w h)) F.2.2.2.1 K Z.1 2 rfl rfl 0 (by decide) (F.2.2.2.2 _ (List.mem_cons_of_mem _ wd430)) (fun _ h => h) rfl hd kk
theorem al3 {i : Int32} (F : CallFix p m c cc nL s args (cw :: Gw) own) (K : va_K D vwCl (tyL cy) s) (Z : ZG D (wC ad cy st) A s H locs) (hi : inB i 3000 = true) (hd : decode cc pc = .ok (.baload, 1)) (kk : W p l e R s m args below meth c H locs 0 0 Q (F0 m (pc + 1) ls (.int (st.2.1 1 i.toNatClampNeg) :: rest))) : W p l e R s m args below meth c H locs 0 0 Q (F0 m pc ls (.int i :: .ref (ad 3) :: rest)) :=
  va_bald F.1 F.2.1 K Z.1 3 0 rfl rfl (inB_vp hi) hd kk
end
set_option maxRecDepth 100000 in
set_option maxHeartbeats 4000000 in
theorem c_X8_byteAt {l : Launch} {D : va_G} {ad : Nat → Nat} {cy : Nat → ClassId} {ee : EE} {n : Nat} {st : StT} {x1 : Int32} {res : (Int32 × StT)} (hf : f_X8_byteAt n st x1 = some res) : CT l yX8_byteAt cX8_byteAt 2 (some .int) 0 0 D cy ee (wC ad cy st) (wC ad cy res.2) [.ref (ad 2), .int x1] (some (.int res.1)) := by
  refine CT.of (by decide +kernel) (Nat.le_of_ble_eq_true rfl) ?_
  intro p e s m args below meth c A F hr hk K E hA Z ls hl
  have hl : lv_has ls 2 [(0, .ref (ad 2)), (1, .int x1)] := hl
  have hx := F.1
  have hb := F.2.1
  unfold f_X8_byteAt at hf
  refine lv_iload_n hx hb dX8_byteAt_0 rfl (lv_at hl 1 rfl) ?_
  refine lv_if_lt (tgt := 32) hx hb dX8_byteAt_1 (by decide) (fun c1 => ?_) (fun c1 => ?_)
  · have hf := if_t c1 hf
    refine lv_iconst (v := -1) hx hb dX8_byteAt_32 (by decide) ?_
    have hf := Option.some.inj hf
    subst hf
    exact ret_i F hr hk Z dX8_byteAt_33
  have hf := if_f c1 hf
  refine lv_iload_n hx hb dX8_byteAt_4 rfl (lv_at hl 1 rfl) ?_
  refine lv_aload_n hx hb dX8_byteAt_5 rfl (lv_at hl 0 rfl) ?_
  refine grX8_15_2 F K Z dX8_byteAt_6 ?_
  refine lv_icmp_ge (tgt := 32) hx hb dX8_byteAt_9 (by decide) (fun c9 => ?_) (fun c9 => ?_)
  · have hf := if_t c9 hf
    refine lv_iconst (v := -1) hx hb dX8_byteAt_32 (by decide) ?_
    have hf := Option.some.inj hf
    subst hf
    exact ret_i F hr hk Z dX8_byteAt_33
  have hf := if_f c9 hf
  refine lv_iload_n hx hb dX8_byteAt_12 rfl (lv_at hl 1 rfl) ?_
  refine lv_sipush (v := 3000) hx hb dX8_byteAt_13 (by decide) ?_
  refine lv_icmp_ge (tgt := 32) hx hb dX8_byteAt_16 (by decide) (fun c16 => ?_) (fun c16 => ?_)
  · have hf := if_t c16 hf
    refine lv_iconst (v := -1) hx hb dX8_byteAt_32 (by decide) ?_
    have hf := Option.some.inj hf
    subst hf
    exact ret_i F hr hk Z dX8_byteAt_33
  have hf := if_f c16 hf
  refine lv_aload_n hx hb dX8_byteAt_19 rfl (lv_at hl 0 rfl) ?_
  refine grX8_9_2 F K Z dX8_byteAt_20 ?_
  refine lv_iload_n hx hb dX8_byteAt_23 rfl (lv_at hl 1 rfl) ?_
  obtain ⟨i24, hf⟩ := if_some hf
  refine al3 F K Z i24 dX8_byteAt_24 ?_
  refine lv_sipush (v := 255) hx hb dX8_byteAt_25 (by decide) ?_
  refine lv_iand hx hb dX8_byteAt_28 ?_
  refine lv_goto (tgt := 33) hx hb dX8_byteAt_29 (by decide) ?_
  have hf := Option.some.inj hf
  subst hf
  exact ret_i F hr hk Z dX8_byteAt_33
def f_X8_drop (n : Nat) (st : StT) : Option StT := some (uF st 0 (0 : Int32))
section
variable {p : Program} {l : Launch} {e : Env} {R : Room} {s : State} {m : MethodId} {args : Array Value} {below : List Frame} {meth : Method} {c : Code} {H : Heap} {locs : List Loc} {Q : State → Prop}
variable {cc : ByteArray} {nL pc : Nat} {ls : Array Slot} {rest : List Value} {D : va_G} {A : Nat → Prop} {cw : Cond} {ad : Nat → Nat} {cy : Nat → ClassId} {ee : EE} {st : StT} {own : String}
theorem prX8_15_2 {v : Int32} (F : CallFix p m c cc nL s args (cw :: Gw) RX8) (K : va_K D vwCl (tyL cy) s) (Z : ZG D (wC ad cy st) A s H locs) (hd : decode cc pc = .ok (.putfield 15, 3)) (kk : ∀ (H1 : Heap) (locs1 : List Loc), ZG D (wC ad cy (uF st 0 v)) A s H1 locs1 → W p l e R s m args below meth c H1 locs1 0 0 Q (F0 m (pc + 3) ls rest)) : W p l e R s m args below meth c H locs 0 0 Q (F0 m pc ls (.int v :: .ref (ad 2) :: rest)) :=
  va_put (D := D) (ci := 8) (v := .int v) (ty := .int) (C := RX8) (T := TX8) (N := 8) F.1 F.2.1 F.2.2.2.2 (fun w h => List.mem_cons_of_mem _ (inG_X8 w h)) tyX8 tyX8_ok nmX8 F.2.2.2.1 K Z.1 Z.2.1 Z.2.2 2 rfl rfl 1 (by decide) (F.2.2.2.2 _ (List.mem_cons_of_mem _ wd429)) (fun _ h => h) rfl (by decide +kernel) rfl rfl (Nat.le_of_ble_eq_true rfl) hd (fun H1 locs1 hP hD hS => kk H1 locs1 ⟨hP, hD, hS⟩)
end
set_option maxRecDepth 100000 in
set_option maxHeartbeats 4000000 in
theorem c_X8_drop {l : Launch} {D : va_G} {ad : Nat → Nat} {cy : Nat → ClassId} {ee : EE} {n : Nat} {st : StT} {res : StT} (hf : f_X8_drop n st = some res) : CT l yX8_drop cX8_drop 1 none 0 0 D cy ee (wC ad cy st) (wC ad cy res) [.ref (ad 2)] (none) := by
  refine CT.of (by decide +kernel) (Nat.le_of_ble_eq_true rfl) ?_
  intro p e s m args below meth c A F hr hk K E hA Z ls hl
  have hl : lv_has ls 1 [(0, .ref (ad 2))] := hl
  have hx := F.1
  have hb := F.2.1
  unfold f_X8_drop at hf
  refine lv_aload_n hx hb dX8_drop_0 rfl (lv_at hl 0 rfl) ?_
  refine lv_iconst (v := 0) hx hb dX8_drop_1 (by decide) ?_
  refine prX8_15_2 F K Z dX8_drop_2 (fun H locs Z => ?_)
  have hf := Option.some.inj hf
  subst hf
  exact ret_v F hr hk Z dX8_drop_5
def f_X8_append_24 (n : Nat) : Nat → StT → Int64 → Int32 → Option (Int32 × StT)
  | 0, _, _, _ => none
  | k + 1, st, x1, x4 => if x4 < 0 then (some ((st.1 0), st)) else (if (st.1 0) < 0 then (f_X8_append_24 n k st x1 (x4 + (-1 : Int32))) else (if (3000 : Int32) ≤ (st.1 0) then (f_X8_append_24 n k st x1 (x4 + (-1 : Int32))) else (if inB (st.1 0) 3000 = true then (f_X8_append_24 n k (uF (uA st 1 (st.1 0) (vp_nar .byte (x1.toUInt64 >>> (((8 : Int32) * x4).toInt64.toUInt64 &&& Int64.toUInt64 63)).toInt64.toInt32.toInt8.toInt32)) 0 (((uA st 1 (st.1 0) (vp_nar .byte (x1.toUInt64 >>> (((8 : Int32) * x4).toInt64.toUInt64 &&& Int64.toUInt64 63)).toInt64.toInt32.toInt8.toInt32)).1 0) + (1 : Int32))) x1 (x4 + (-1 : Int32))) else none)))
def f_X8_append (n : Nat) (st : StT) (x1 : Int64) (x3 : Int32) : Option (Int32 × StT) := if x3 < 0 then (some ((-4 : Int32), st)) else (if x3 ≤ ((3000 : Int32) - (st.1 0)) then (f_X8_append_24 n n st x1 (x3 - (1 : Int32))) else (some ((-4 : Int32), st)))
section
variable {p : Program} {l : Launch} {e : Env} {R : Room} {s : State} {m : MethodId} {args : Array Value} {below : List Frame} {meth : Method} {c : Code} {H : Heap} {locs : List Loc} {Q : State → Prop}
variable {cc : ByteArray} {nL pc : Nat} {ls : Array Slot} {rest : List Value} {D : va_G} {A : Nat → Prop} {cw : Cond} {ad : Nat → Nat} {cy : Nat → ClassId} {ee : EE} {st : StT} {own : String}
theorem as3 {i : Int32} {v : Int32} (F : CallFix p m c cc nL s args (cw :: Gw) own) (K : va_K D vwCl (tyL cy) s) (Z : ZG D (wC ad cy st) A s H locs) (hi : inB i 3000 = true) (hd : decode cc pc = .ok (.bastore, 1)) (kk : ∀ (H1 : Heap) (locs1 : List Loc), ZG D (wC ad cy (uA st 1 i (vp_nar .byte v))) A s H1 locs1 → W p l e R s m args below meth c H1 locs1 0 0 Q (F0 m (pc + 1) ls rest)) : W p l e R s m args below meth c H locs 0 0 Q (F0 m pc ls (.int v :: .int i :: .ref (ad 3) :: rest)) :=
  va_bast F.1 F.2.1 K Z.1 Z.2.1 Z.2.2 3 0 rfl rfl (inB_vp hi) hd (fun H1 locs1 hP hD hS => kk H1 locs1 ⟨hP, hD, hS⟩)
end
set_option maxRecDepth 100000 in
set_option maxHeartbeats 4000000 in
theorem b_X8_append_24 {p : Program} {l : Launch} {e : Env} {s : State} {m : MethodId} {args : Array Value} {below : List Frame} {meth : Method} {c : Code} {D : va_G} {A : Nat → Prop} {ad : Nat → Nat} {cy : Nat → ClassId} {ee : EE} {n : Nat} {res : (Int32 × StT)} (F : CallFix p m c cX8_append 5 s args (Cond.code yX8_append cX8_append 5 (some .int) :: Gw) yX8_append.cls) (hr : meth.sig.returnType = (some .int)) (hk : meth.locks = false) (K : va_K D vwCl (tyL cy) s) (E : EV ee A s s.heap) (hA : ∀ q, s.heap.size ≤ q → A q) : ∀ (k : Nat) (st : StT) (x1 : Int64) (x4 : Int32), f_X8_append_24 n k st x1 x4 = some res → ∀ (H : Heap) (locs : List Loc) (ls : Array Slot), ZG D (wC ad cy st) A s H locs → lv_has ls 5 [(0, .ref (ad 2)), (1, .long x1), (4, .int x4)] → W p l e { frames := 0, cells := 0, slots := 0, locals := 0 } s m args below meth c H locs 0 0 (MQ below (QC D (some (.int res.1)) (wC ad cy res.2) A) args s 0 0 A) (F0 m 24 ls []) := by
  have hx := F.1
  have hb := F.2.1
  intro k
  induction k with
  | zero =>
    intro st x1 x4 hf
    exact absurd hf (by simp [f_X8_append_24])
  | succ k ih =>
    intro st x1 x4 hf H locs ls Z hl
    rw [f_X8_append_24] at hf
    refine lv_iload hx hb dX8_append_24 (lv_at hl 2 rfl) ?_
    refine lv_if_lt (tgt := 80) hx hb dX8_append_26 (by decide) (fun c26 => ?_) (fun c26 => ?_)
    · have hf := if_t c26 hf
      refine lv_aload_n hx hb dX8_append_80 rfl (lv_at hl 0 rfl) ?_
      refine grX8_15_2 F K Z dX8_append_81 ?_
      have hf := Option.some.inj hf
      subst hf
      exact ret_i F hr hk Z dX8_append_84
    have hf := if_f c26 hf
    refine lv_aload_n hx hb dX8_append_29 rfl (lv_at hl 0 rfl) ?_
    refine grX8_15_2 F K Z dX8_append_30 ?_
    refine lv_if_lt (tgt := 74) hx hb dX8_append_33 (by decide) (fun c33 => ?_) (fun c33 => ?_)
    · have hf := if_t c33 hf
      refine lv_iinc (v := (x4 + (-1 : Int32))) (lv' := [(4, .int (x4 + (-1 : Int32))), (0, .ref (ad 2)), (1, .long x1)]) hx hb dX8_append_74 hl (k := 2) rfl (congrArg (fun z => x4 + z) (by decide)) (by decide) rfl (fun ls hl => ?_)
      refine lv_goto (tgt := 24) hx hb dX8_append_77 (by decide) ?_
      exact ih _ _ _ hf _ _ _ Z (lv_sub hl [1, 2, 0] rfl)
    have hf := if_f c33 hf
    refine lv_aload_n hx hb dX8_append_36 rfl (lv_at hl 0 rfl) ?_
    refine grX8_15_2 F K Z dX8_append_37 ?_
    refine lv_sipush (v := 3000) hx hb dX8_append_40 (by decide) ?_
    refine lv_icmp_ge (tgt := 74) hx hb dX8_append_43 (by decide) (fun c43 => ?_) (fun c43 => ?_)
    · have hf := if_t c43 hf
      refine lv_iinc (v := (x4 + (-1 : Int32))) (lv' := [(4, .int (x4 + (-1 : Int32))), (0, .ref (ad 2)), (1, .long x1)]) hx hb dX8_append_74 hl (k := 2) rfl (congrArg (fun z => x4 + z) (by decide)) (by decide) rfl (fun ls hl => ?_)
      refine lv_goto (tgt := 24) hx hb dX8_append_77 (by decide) ?_
      exact ih _ _ _ hf _ _ _ Z (lv_sub hl [1, 2, 0] rfl)
    have hf := if_f c43 hf
    refine lv_aload_n hx hb dX8_append_46 rfl (lv_at hl 0 rfl) ?_
    refine grX8_9_2 F K Z dX8_append_47 ?_
    refine lv_aload_n hx hb dX8_append_50 rfl (lv_at hl 0 rfl) ?_
    refine grX8_15_2 F K Z dX8_append_51 ?_
    refine lv_lload_n hx hb dX8_append_54 rfl (lv_at hl 1 rfl) ?_
    refine lv_bipush (v := 8) hx hb dX8_append_55 (by decide) ?_
    refine lv_iload hx hb dX8_append_57 (lv_at hl 2 rfl) ?_
    refine lv_imul hx hb dX8_append_59 ?_
    refine lv_lushr hx hb dX8_append_60 rfl ?_
    refine lv_l2i hx hb dX8_append_61 rfl ?_
    refine lv_i2b hx hb dX8_append_62 rfl ?_
    obtain ⟨i63, hf⟩ := if_some hf
    refine as3 F K Z i63 dX8_append_63 (fun H locs Z => ?_)
    refine lv_aload_n hx hb dX8_append_64 rfl (lv_at hl 0 rfl) ?_
    refine lv_dup hx hb dX8_append_65 rfl ?_
    refine grX8_15_2 F K Z dX8_append_66 ?_
    refine lv_iconst (v := 1) hx hb dX8_append_69 (by decide) ?_
    refine lv_iadd hx hb dX8_append_70 ?_
    refine prX8_15_2 F K Z dX8_append_71 (fun H locs Z => ?_)
    refine lv_iinc (v := (x4 + (-1 : Int32))) (lv' := [(4, .int (x4 + (-1 : Int32))), (0, .ref (ad 2)), (1, .long x1)]) hx hb dX8_append_74 hl (k := 2) rfl (congrArg (fun z => x4 + z) (by decide)) (by decide) rfl (fun ls hl => ?_)
    refine lv_goto (tgt := 24) hx hb dX8_append_77 (by decide) ?_
    exact ih _ _ _ hf _ _ _ Z (lv_sub hl [1, 2, 0] rfl)
set_option maxRecDepth 100000 in
set_option maxHeartbeats 4000000 in
theorem c_X8_append {l : Launch} {D : va_G} {ad : Nat → Nat} {cy : Nat → ClassId} {ee : EE} {n : Nat} {st : StT} {x1 : Int64} {x3 : Int32} {res : (Int32 × StT)} (hf : f_X8_append n st x1 x3 = some res) : CT l yX8_append cX8_append 5 (some .int) 0 0 D cy ee (wC ad cy st) (wC ad cy res.2) [.ref (ad 2), .long x1, .int x3] (some (.int res.1)) := by
  refine CT.of (by decide +kernel) (Nat.le_of_ble_eq_true rfl) ?_
  intro p e s m args below meth c A F hr hk K E hA Z ls hl
  have hl : lv_has ls 5 [(0, .ref (ad 2)), (1, .long x1), (3, .int x3)] := hl
  have hx := F.1
  have hb := F.2.1
  unfold f_X8_append at hf
  refine lv_iload_n hx hb dX8_append_0 rfl (lv_at hl 2 rfl) ?_
  refine lv_if_lt (tgt := 16) hx hb dX8_append_1 (by decide) (fun c1 => ?_) (fun c1 => ?_)
  · have hf := if_t c1 hf
    refine lv_bipush (v := -4) hx hb dX8_append_16 (by decide) ?_
    have hf := Option.some.inj hf
    subst hf
    exact ret_i F hr hk Z dX8_append_18
  have hf := if_f c1 hf
  refine lv_iload_n hx hb dX8_append_4 rfl (lv_at hl 2 rfl) ?_
  refine lv_sipush (v := 3000) hx hb dX8_append_5 (by decide) ?_
  refine lv_aload_n hx hb dX8_append_8 rfl (lv_at hl 0 rfl) ?_
  refine grX8_15_2 F K Z dX8_append_9 ?_
  refine lv_isub hx hb dX8_append_12 ?_
  refine lv_icmp_le (tgt := 19) hx hb dX8_append_13 (by decide) (fun c13 => ?_) (fun c13 => ?_)
  · have hf := if_t c13 hf
    refine lv_iload_n hx hb dX8_append_19 rfl (lv_at hl 2 rfl) ?_
    refine lv_iconst (v := 1) hx hb dX8_append_20 (by decide) ?_
    refine lv_isub hx hb dX8_append_21 ?_
    refine lv_istore (lv' := [(4, .int (x3 - (1 : Int32))), (0, .ref (ad 2)), (1, .long x1), (3, .int x3)]) hx hb dX8_append_22 hl (by decide) rfl (fun ls hl => ?_)
    exact b_X8_append_24 F hr hk K E hA _ _ _ _ hf _ _ _ Z (lv_sub hl [1, 2, 0] rfl)
  have hf := if_f c13 hf
  refine lv_bipush (v := -4) hx hb dX8_append_16 (by decide) ?_
  have hf := Option.some.inj hf
  subst hf
  exact ret_i F hr hk Z dX8_append_18
def f_X8_begin (n : Nat) (st : StT) (x1 : Int32) : Option StT := if isZ x1 = true then (some (uF (uF (uF st 1 x1) 2 (0 : Int32)) 5 (0 : Int32))) else none
theorem wd431 : Cond.fieldLink RX8 19 "WorldProver$Tokens" "ofTerms" "Z" ∈ Gw := gT1 (List.mem_of_getElem? (i := 38) rfl) rfl
theorem wd432 : Cond.fieldLink RX8 23 "WorldProver$Tokens" "looked" "Z" ∈ Gw := gT1 (List.mem_of_getElem? (i := 39) rfl) rfl
theorem wd433 : Cond.fieldLink RX8 26 "WorldProver$Tokens" "end" "I" ∈ Gw := gT1 (List.mem_of_getElem? (i := 42) rfl) rfl
section
variable {p : Program} {l : Launch} {e : Env} {R : Room} {s : State} {m : MethodId} {args : Array Value} {below : List Frame} {meth : Method} {c : Code} {H : Heap} {locs : List Loc} {Q : State → Prop}
variable {cc : ByteArray} {nL pc : Nat} {ls : Array Slot} {rest : List Value} {D : va_G} {A : Nat → Prop} {cw : Cond} {ad : Nat → Nat} {cy : Nat → ClassId} {ee : EE} {st : StT} {own : String}
theorem prX8_19_2 {v : Int32} (F : CallFix p m c cc nL s args (cw :: Gw) RX8) (K : va_K D vwCl (tyL cy) s) (Z : ZG D (wC ad cy st) A s H locs) (hz : isZ v = true) (hd : decode cc pc = .ok (.putfield 19, 3)) (kk : ∀ (H1 : Heap) (locs1 : List Loc), ZG D (wC ad cy (uF st 1 v)) A s H1 locs1 → W p l e R s m args below meth c H1 locs1 0 0 Q (F0 m (pc + 3) ls rest)) : W p l e R s m args below meth c H locs 0 0 Q (F0 m pc ls (.int v :: .ref (ad 2) :: rest)) :=
  va_put (D := D) (ci := 8) (v := .int v) (ty := .boolean) (C := RX8) (T := TX8) (N := 8) F.1 F.2.1 F.2.2.2.2 (fun w h => List.mem_cons_of_mem _ (inG_X8 w h)) tyX8 tyX8_ok nmX8 F.2.2.2.1 K Z.1 Z.2.1 Z.2.2 2 rfl rfl 2 (by decide) (F.2.2.2.2 _ (List.mem_cons_of_mem _ wd431)) (fun _ h => h) rfl (by decide +kernel) (isZ_nar hz) (isZ_fit hz) (Nat.le_of_ble_eq_true rfl) hd (fun H1 locs1 hP hD hS => kk H1 locs1 ⟨hP, hD, hS⟩)
theorem prX8_23_2 {v : Int32} (F : CallFix p m c cc nL s args (cw :: Gw) RX8) (K : va_K D vwCl (tyL cy) s) (Z : ZG D (wC ad cy st) A s H locs) (hz : isZ v = true) (hd : decode cc pc = .ok (.putfield 23, 3)) (kk : ∀ (H1 : Heap) (locs1 : List Loc), ZG D (wC ad cy (uF st 2 v)) A s H1 locs1 → W p l e R s m args below meth c H1 locs1 0 0 Q (F0 m (pc + 3) ls rest)) : W p l e R s m args below meth c H locs 0 0 Q (F0 m pc ls (.int v :: .ref (ad 2) :: rest)) :=
  va_put (D := D) (ci := 8) (v := .int v) (ty := .boolean) (C := RX8) (T := TX8) (N := 8) F.1 F.2.1 F.2.2.2.2 (fun w h => List.mem_cons_of_mem _ (inG_X8 w h)) tyX8 tyX8_ok nmX8 F.2.2.2.1 K Z.1 Z.2.1 Z.2.2 2 rfl rfl 3 (by decide) (F.2.2.2.2 _ (List.mem_cons_of_mem _ wd432)) (fun _ h => h) rfl (by decide +kernel) (isZ_nar hz) (isZ_fit hz) (Nat.le_of_ble_eq_true rfl) hd (fun H1 locs1 hP hD hS => kk H1 locs1 ⟨hP, hD, hS⟩)
theorem prX8_26_2 {v : Int32} (F : CallFix p m c cc nL s args (cw :: Gw) RX8) (K : va_K D vwCl (tyL cy) s) (Z : ZG D (wC ad cy st) A s H locs) (hd : decode cc pc = .ok (.putfield 26, 3)) (kk : ∀ (H1 : Heap) (locs1 : List Loc), ZG D (wC ad cy (uF st 5 v)) A s H1 locs1 → W p l e R s m args below meth c H1 locs1 0 0 Q (F0 m (pc + 3) ls rest)) : W p l e R s m args below meth c H locs 0 0 Q (F0 m pc ls (.int v :: .ref (ad 2) :: rest)) :=
  va_put (D := D) (ci := 8) (v := .int v) (ty := .int) (C := RX8) (T := TX8) (N := 8) F.1 F.2.1 F.2.2.2.2 (fun w h => List.mem_cons_of_mem _ (inG_X8 w h)) tyX8 tyX8_ok nmX8 F.2.2.2.1 K Z.1 Z.2.1 Z.2.2 2 rfl rfl 6 (by decide) (F.2.2.2.2 _ (List.mem_cons_of_mem _ wd433)) (fun _ h => h) rfl (by decide +kernel) rfl rfl (Nat.le_of_ble_eq_true rfl) hd (fun H1 locs1 hP hD hS => kk H1 locs1 ⟨hP, hD, hS⟩)
end
set_option maxRecDepth 100000 in
set_option maxHeartbeats 4000000 in
theorem c_X8_begin {l : Launch} {D : va_G} {ad : Nat → Nat} {cy : Nat → ClassId} {ee : EE} {n : Nat} {st : StT} {x1 : Int32} {res : StT} (hf : f_X8_begin n st x1 = some res) : CT l yX8_begin cX8_begin 2 none 0 0 D cy ee (wC ad cy st) (wC ad cy res) [.ref (ad 2), .int x1] (none) := by
  refine CT.of (by decide +kernel) (Nat.le_of_ble_eq_true rfl) ?_
  intro p e s m args below meth c A F hr hk K E hA Z ls hl
  have hl : lv_has ls 2 [(0, .ref (ad 2)), (1, .int x1)] := hl
  have hx := F.1
  have hb := F.2.1
  unfold f_X8_begin at hf
  refine lv_aload_n hx hb dX8_begin_0 rfl (lv_at hl 0 rfl) ?_
  refine lv_iload_n hx hb dX8_begin_1 rfl (lv_at hl 1 rfl) ?_
  obtain ⟨i2, hf⟩ := if_some hf
  refine prX8_19_2 F K Z i2 dX8_begin_2 (fun H locs Z => ?_)
  refine lv_aload_n hx hb dX8_begin_5 rfl (lv_at hl 0 rfl) ?_
  refine lv_iconst (v := 0) hx hb dX8_begin_6 (by decide) ?_
  refine prX8_23_2 F K Z rfl dX8_begin_7 (fun H locs Z => ?_)
  refine lv_aload_n hx hb dX8_begin_10 rfl (lv_at hl 0 rfl) ?_
  refine lv_iconst (v := 0) hx hb dX8_begin_11 (by decide) ?_
  refine prX8_26_2 F K Z dX8_begin_12 (fun H locs Z => ?_)
  have hf := Option.some.inj hf
  subst hf
  exact ret_v F hr hk Z dX8_begin_15
def f_X8_isBlank (n : Nat) (st : StT) (x0 : Int32) : Option (Int32 × StT) := if x0 = (9 : Int32) then (some ((1 : Int32), st)) else (if x0 = (10 : Int32) then (some ((1 : Int32), st)) else (if x0 = (13 : Int32) then (some ((1 : Int32), st)) else (if x0 = (32 : Int32) then (some ((1 : Int32), st)) else (some ((0 : Int32), st)))))
theorem wd434 : Cond.fieldLink RX8 50 "WorldProver$Tokens" "kind" "I" ∈ Gw := gT1 (List.mem_of_getElem? (i := 40) rfl) rfl
theorem wd435 : Cond.fieldLink RX8 29 "WorldProver$Tokens" "start" "I" ∈ Gw := gT1 (List.mem_of_getElem? (i := 41) rfl) rfl
section
variable {p : Program} {l : Launch} {e : Env} {R : Room} {s : State} {m : MethodId} {args : Array Value} {below : List Frame} {meth : Method} {c : Code} {H : Heap} {locs : List Loc} {Q : State → Prop}
variable {cc : ByteArray} {nL pc : Nat} {ls : Array Slot} {rest : List Value} {D : va_G} {A : Nat → Prop} {cw : Cond} {ad : Nat → Nat} {cy : Nat → ClassId} {ee : EE} {st : StT} {own : String}
theorem grX8_23_2 (F : CallFix p m c cc nL s args (cw :: Gw) RX8) (K : va_K D vwCl (tyL cy) s) (Z : ZG D (wC ad cy st) A s H locs) (hd : decode cc pc = .ok (.getfield 23, 3)) (kk : W p l e R s m args below meth c H locs 0 0 Q (F0 m (pc + 3) ls (.int (st.1 2) :: rest))) : W p l e R s m args below meth c H locs 0 0 Q (F0 m pc ls (.ref (ad 2) :: rest)) :=
  va_get (D := D) (ci := 8) (C := RX8) (T := TX8) (N := 8) F.1 F.2.1 F.2.2.2.2 (fun w h => List.mem_cons_of_mem _ (inG_X8 w h)) F.2.2.2.1 K Z.1 2 rfl rfl 3 (by decide) (F.2.2.2.2 _ (List.mem_cons_of_mem _ wd432)) (fun _ h => h) rfl hd kk
theorem grX8_50_2 (F : CallFix p m c cc nL s args (cw :: Gw) RX8) (K : va_K D vwCl (tyL cy) s) (Z : ZG D (wC ad cy st) A s H locs) (hd : decode cc pc = .ok (.getfield 50, 3)) (kk : W p l e R s m args below meth c H locs 0 0 Q (F0 m (pc + 3) ls (.int (st.1 3) :: rest))) : W p l e R s m args below meth c H locs 0 0 Q (F0 m pc ls (.ref (ad 2) :: rest)) :=
  va_get (D := D) (ci := 8) (C := RX8) (T := TX8) (N := 8) F.1 F.2.1 F.2.2.2.2 (fun w h => List.mem_cons_of_mem _ (inG_X8 w h)) F.2.2.2.1 K Z.1 2 rfl rfl 4 (by decide) (F.2.2.2.2 _ (List.mem_cons_of_mem _ wd434)) (fun _ h => h) rfl hd kk
theorem grX8_26_2 (F : CallFix p m c cc nL s args (cw :: Gw) RX8) (K : va_K D vwCl (tyL cy) s) (Z : ZG D (wC ad cy st) A s H locs) (hd : decode cc pc = .ok (.getfield 26, 3)) (kk : W p l e R s m args below meth c H locs 0 0 Q (F0 m (pc + 3) ls (.int (st.1 5) :: rest))) : W p l e R s m args below meth c H locs 0 0 Q (F0 m pc ls (.ref (ad 2) :: rest)) :=
  va_get (D := D) (ci := 8) (C := RX8) (T := TX8) (N := 8) F.1 F.2.1 F.2.2.2.2 (fun w h => List.mem_cons_of_mem _ (inG_X8 w h)) F.2.2.2.1 K Z.1 2 rfl rfl 6 (by decide) (F.2.2.2.2 _ (List.mem_cons_of_mem _ wd433)) (fun _ h => h) rfl hd kk
theorem prX8_29_2 {v : Int32} (F : CallFix p m c cc nL s args (cw :: Gw) RX8) (K : va_K D vwCl (tyL cy) s) (Z : ZG D (wC ad cy st) A s H locs) (hd : decode cc pc = .ok (.putfield 29, 3)) (kk : ∀ (H1 : Heap) (locs1 : List Loc), ZG D (wC ad cy (uF st 4 v)) A s H1 locs1 → W p l e R s m args below meth c H1 locs1 0 0 Q (F0 m (pc + 3) ls rest)) : W p l e R s m args below meth c H locs 0 0 Q (F0 m pc ls (.int v :: .ref (ad 2) :: rest)) :=
  va_put (D := D) (ci := 8) (v := .int v) (ty := .int) (C := RX8) (T := TX8) (N := 8) F.1 F.2.1 F.2.2.2.2 (fun w h => List.mem_cons_of_mem _ (inG_X8 w h)) tyX8 tyX8_ok nmX8 F.2.2.2.1 K Z.1 Z.2.1 Z.2.2 2 rfl rfl 5 (by decide) (F.2.2.2.2 _ (List.mem_cons_of_mem _ wd435)) (fun _ h => h) rfl (by decide +kernel) rfl rfl (Nat.le_of_ble_eq_true rfl) hd (fun H1 locs1 hP hD hS => kk H1 locs1 ⟨hP, hD, hS⟩)
theorem grX8_29_2 (F : CallFix p m c cc nL s args (cw :: Gw) RX8) (K : va_K D vwCl (tyL cy) s) (Z : ZG D (wC ad cy st) A s H locs) (hd : decode cc pc = .ok (.getfield 29, 3)) (kk : W p l e R s m args below meth c H locs 0 0 Q (F0 m (pc + 3) ls (.int (st.1 4) :: rest))) : W p l e R s m args below meth c H locs 0 0 Q (F0 m pc ls (.ref (ad 2) :: rest)) :=
  va_get (D := D) (ci := 8) (C := RX8) (T := TX8) (N := 8) F.1 F.2.1 F.2.2.2.2 (fun w h => List.mem_cons_of_mem _ (inG_X8 w h)) F.2.2.2.1 K Z.1 2 rfl rfl 5 (by decide) (F.2.2.2.2 _ (List.mem_cons_of_mem _ wd435)) (fun _ h => h) rfl hd kk
end
set_option maxRecDepth 100000 in
set_option maxHeartbeats 4000000 in
theorem c_X8_isBlank {l : Launch} {D : va_G} {ad : Nat → Nat} {cy : Nat → ClassId} {ee : EE} {n : Nat} {st : StT} {x0 : Int32} {res : (Int32 × StT)} (hf : f_X8_isBlank n st x0 = some res) : CT l yX8_isBlank cX8_isBlank 1 (some .boolean) 0 0 D cy ee (wC ad cy st) (wC ad cy res.2) [.int x0] (some (.int res.1)) := by
  refine CT.of (by decide +kernel) (Nat.le_of_ble_eq_true rfl) ?_
  intro p e s m args below meth c A F hr hk K E hA Z ls hl
  have hl : lv_has ls 1 [(0, .int x0)] := hl
  have hx := F.1
  have hb := F.2.1
  unfold f_X8_isBlank at hf
  refine lv_iload_n hx hb dX8_isBlank_0 rfl (lv_at hl 0 rfl) ?_
  refine lv_bipush (v := 9) hx hb dX8_isBlank_1 (by decide) ?_
  refine lv_icmp_eq (tgt := 24) hx hb dX8_isBlank_3 (by decide) (fun c3 => ?_) (fun c3 => ?_)
  · have hf := if_t c3 hf
    refine lv_iconst (v := 1) hx hb dX8_isBlank_24 (by decide) ?_
    refine lv_goto (tgt := 29) hx hb dX8_isBlank_25 (by decide) ?_
    have hf := Option.some.inj hf
    subst hf
    exact ret_z F hr hk Z rfl dX8_isBlank_29
  have hf := if_f c3 hf
  refine lv_iload_n hx hb dX8_isBlank_6 rfl (lv_at hl 0 rfl) ?_
  refine lv_bipush (v := 10) hx hb dX8_isBlank_7 (by decide) ?_
  refine lv_icmp_eq (tgt := 24) hx hb dX8_isBlank_9 (by decide) (fun c9 => ?_) (fun c9 => ?_)
  · have hf := if_t c9 hf
    refine lv_iconst (v := 1) hx hb dX8_isBlank_24 (by decide) ?_
    refine lv_goto (tgt := 29) hx hb dX8_isBlank_25 (by decide) ?_
    have hf := Option.some.inj hf
    subst hf
    exact ret_z F hr hk Z rfl dX8_isBlank_29
  have hf := if_f c9 hf
  refine lv_iload_n hx hb dX8_isBlank_12 rfl (lv_at hl 0 rfl) ?_
  refine lv_bipush (v := 13) hx hb dX8_isBlank_13 (by decide) ?_
  refine lv_icmp_eq (tgt := 24) hx hb dX8_isBlank_15 (by decide) (fun c15 => ?_) (fun c15 => ?_)
  · have hf := if_t c15 hf
    refine lv_iconst (v := 1) hx hb dX8_isBlank_24 (by decide) ?_
    refine lv_goto (tgt := 29) hx hb dX8_isBlank_25 (by decide) ?_
    have hf := Option.some.inj hf
    subst hf
    exact ret_z F hr hk Z rfl dX8_isBlank_29
  have hf := if_f c15 hf
  refine lv_iload_n hx hb dX8_isBlank_18 rfl (lv_at hl 0 rfl) ?_
  refine lv_bipush (v := 32) hx hb dX8_isBlank_19 (by decide) ?_
  refine lv_icmp_ne (tgt := 28) hx hb dX8_isBlank_21 (by decide) (fun c21 => ?_) (fun c21 => ?_)
  · have hf := if_f c21 hf
    refine lv_iconst (v := 0) hx hb dX8_isBlank_28 (by decide) ?_
    have hf := Option.some.inj hf
    subst hf
    exact ret_z F hr hk Z rfl dX8_isBlank_29
  have hf := if_t c21 hf
  refine lv_iconst (v := 1) hx hb dX8_isBlank_24 (by decide) ?_
  refine lv_goto (tgt := 29) hx hb dX8_isBlank_25 (by decide) ?_
  have hf := Option.some.inj hf
  subst hf
  exact ret_z F hr hk Z rfl dX8_isBlank_29
def f_X8_isLetter (n : Nat) (st : StT) (x0 : Int32) : Option (Int32 × StT) := if x0 < (97 : Int32) then (some ((0 : Int32), st)) else (if (122 : Int32) < x0 then (some ((0 : Int32), st)) else (some ((1 : Int32), st)))
set_option maxRecDepth 100000 in
set_option maxHeartbeats 4000000 in
theorem c_X8_isLetter {l : Launch} {D : va_G} {ad : Nat → Nat} {cy : Nat → ClassId} {ee : EE} {n : Nat} {st : StT} {x0 : Int32} {res : (Int32 × StT)} (hf : f_X8_isLetter n st x0 = some res) : CT l yX8_isLetter cX8_isLetter 1 (some .boolean) 0 0 D cy ee (wC ad cy st) (wC ad cy res.2) [.int x0] (some (.int res.1)) := by
  refine CT.of (by decide +kernel) (Nat.le_of_ble_eq_true rfl) ?_
  intro p e s m args below meth c A F hr hk K E hA Z ls hl
  have hl : lv_has ls 1 [(0, .int x0)] := hl
  have hx := F.1
  have hb := F.2.1
  unfold f_X8_isLetter at hf
  refine lv_iload_n hx hb dX8_isLetter_0 rfl (lv_at hl 0 rfl) ?_
  refine lv_bipush (v := 97) hx hb dX8_isLetter_1 (by decide) ?_
  refine lv_icmp_lt (tgt := 16) hx hb dX8_isLetter_3 (by decide) (fun c3 => ?_) (fun c3 => ?_)
  · have hf := if_t c3 hf
    refine lv_iconst (v := 0) hx hb dX8_isLetter_16 (by decide) ?_
    have hf := Option.some.inj hf
    subst hf
    exact ret_z F hr hk Z rfl dX8_isLetter_17
  have hf := if_f c3 hf
  refine lv_iload_n hx hb dX8_isLetter_6 rfl (lv_at hl 0 rfl) ?_
  refine lv_bipush (v := 122) hx hb dX8_isLetter_7 (by decide) ?_
  refine lv_icmp_gt (tgt := 16) hx hb dX8_isLetter_9 (by decide) (fun c9 => ?_) (fun c9 => ?_)
  · have hf := if_t c9 hf
    refine lv_iconst (v := 0) hx hb dX8_isLetter_16 (by decide) ?_
    have hf := Option.some.inj hf
    subst hf
    exact ret_z F hr hk Z rfl dX8_isLetter_17
  have hf := if_f c9 hf
  refine lv_iconst (v := 1) hx hb dX8_isLetter_12 (by decide) ?_
  refine lv_goto (tgt := 17) hx hb dX8_isLetter_13 (by decide) ?_
  have hf := Option.some.inj hf
  subst hf
  exact ret_z F hr hk Z rfl dX8_isLetter_17
def f_X8_token (n : Nat) (st : StT) (x1 : Int32) (x2 : Int32) : Option StT := some (uF (uF st 3 x1) 5 (((uF st 3 x1).1 4) + x2))
section
variable {p : Program} {l : Launch} {e : Env} {R : Room} {s : State} {m : MethodId} {args : Array Value} {below : List Frame} {meth : Method} {c : Code} {H : Heap} {locs : List Loc} {Q : State → Prop}
variable {cc : ByteArray} {nL pc : Nat} {ls : Array Slot} {rest : List Value} {D : va_G} {A : Nat → Prop} {cw : Cond} {ad : Nat → Nat} {cy : Nat → ClassId} {ee : EE} {st : StT} {own : String}
theorem grX8_19_2 (F : CallFix p m c cc nL s args (cw :: Gw) RX8) (K : va_K D vwCl (tyL cy) s) (Z : ZG D (wC ad cy st) A s H locs) (hd : decode cc pc = .ok (.getfield 19, 3)) (kk : W p l e R s m args below meth c H locs 0 0 Q (F0 m (pc + 3) ls (.int (st.1 1) :: rest))) : W p l e R s m args below meth c H locs 0 0 Q (F0 m pc ls (.ref (ad 2) :: rest)) :=
  va_get (D := D) (ci := 8) (C := RX8) (T := TX8) (N := 8) F.1 F.2.1 F.2.2.2.2 (fun w h => List.mem_cons_of_mem _ (inG_X8 w h)) F.2.2.2.1 K Z.1 2 rfl rfl 2 (by decide) (F.2.2.2.2 _ (List.mem_cons_of_mem _ wd431)) (fun _ h => h) rfl hd kk
theorem prX8_50_2 {v : Int32} (F : CallFix p m c cc nL s args (cw :: Gw) RX8) (K : va_K D vwCl (tyL cy) s) (Z : ZG D (wC ad cy st) A s H locs) (hd : decode cc pc = .ok (.putfield 50, 3)) (kk : ∀ (H1 : Heap) (locs1 : List Loc), ZG D (wC ad cy (uF st 3 v)) A s H1 locs1 → W p l e R s m args below meth c H1 locs1 0 0 Q (F0 m (pc + 3) ls rest)) : W p l e R s m args below meth c H locs 0 0 Q (F0 m pc ls (.int v :: .ref (ad 2) :: rest)) :=
  va_put (D := D) (ci := 8) (v := .int v) (ty := .int) (C := RX8) (T := TX8) (N := 8) F.1 F.2.1 F.2.2.2.2 (fun w h => List.mem_cons_of_mem _ (inG_X8 w h)) tyX8 tyX8_ok nmX8 F.2.2.2.1 K Z.1 Z.2.1 Z.2.2 2 rfl rfl 4 (by decide) (F.2.2.2.2 _ (List.mem_cons_of_mem _ wd434)) (fun _ h => h) rfl (by decide +kernel) rfl rfl (Nat.le_of_ble_eq_true rfl) hd (fun H1 locs1 hP hD hS => kk H1 locs1 ⟨hP, hD, hS⟩)
end
set_option maxRecDepth 100000 in
set_option maxHeartbeats 4000000 in
theorem c_X8_token {l : Launch} {D : va_G} {ad : Nat → Nat} {cy : Nat → ClassId} {ee : EE} {n : Nat} {st : StT} {x1 : Int32} {x2 : Int32} {res : StT} (hf : f_X8_token n st x1 x2 = some res) : CT l yX8_token cX8_token 3 none 0 0 D cy ee (wC ad cy st) (wC ad cy res) [.ref (ad 2), .int x1, .int x2] (none) := by
  refine CT.of (by decide +kernel) (Nat.le_of_ble_eq_true rfl) ?_
  intro p e s m args below meth c A F hr hk K E hA Z ls hl
  have hl : lv_has ls 3 [(0, .ref (ad 2)), (1, .int x1), (2, .int x2)] := hl
  have hx := F.1
  have hb := F.2.1
  unfold f_X8_token at hf
  refine lv_aload_n hx hb dX8_token_0 rfl (lv_at hl 0 rfl) ?_
  refine lv_iload_n hx hb dX8_token_1 rfl (lv_at hl 1 rfl) ?_
  refine prX8_50_2 F K Z dX8_token_2 (fun H locs Z => ?_)
  refine lv_aload_n hx hb dX8_token_5 rfl (lv_at hl 0 rfl) ?_
  refine lv_aload_n hx hb dX8_token_6 rfl (lv_at hl 0 rfl) ?_
  refine grX8_29_2 F K Z dX8_token_7 ?_
  refine lv_iload_n hx hb dX8_token_10 rfl (lv_at hl 2 rfl) ?_
  refine lv_iadd hx hb dX8_token_11 ?_
  refine prX8_26_2 F K Z dX8_token_12 (fun H locs Z => ?_)
  have hf := Option.some.inj hf
  subst hf
  exact ret_v F hr hk Z dX8_token_15
def f_J0_isLatin1_aae02_s0 (n : Nat) (st : StT) : Option (Int32 × StT) := if (1 : Int32) = 0 then (some ((0 : Int32), st)) else (if (0 : Int32) = 0 then (some ((1 : Int32), st)) else (some ((0 : Int32), st)))
theorem wd436 : Cond.fieldLink RJ0 9 "java/lang/String" "value" "[B" ∈ Gw := gT8 (List.mem_of_getElem? (i := 227) rfl) rfl
theorem wd437 : Cond.fieldLink RJ0 38 "java/lang/String" "COMPACT_STRINGS" "Z" ∈ Gw := gT3 (List.mem_of_getElem? (i := 23) rfl) rfl
theorem wd438 : Cond.fieldLink RJ0 15 "java/lang/String" "coder" "B" ∈ Gw := gT8 (List.mem_of_getElem? (i := 226) rfl) rfl
set_option maxRecDepth 100000 in
set_option maxHeartbeats 4000000 in
theorem c_J0_isLatin1_aae02_s0 {l : Launch} {D : va_G} {ad : Nat → Nat} {cy : Nat → ClassId} {ee : EE} {n : Nat} {st : StT} {res : (Int32 × StT)} (hf : f_J0_isLatin1_aae02_s0 n st = some res) : CT l yJ0_isLatin1_aae02 cJ0_isLatin1_aae02 1 (some .boolean) 0 0 D cy ee (wC ad cy st) (wC ad cy res.2) [.ref (ee.1 0)] (some (.int res.1)) := by
  refine CT.of (by decide +kernel) (Nat.le_of_ble_eq_true rfl) ?_
  intro p e s m args below meth c A F hr hk K E hA Z ls hl
  have hl : lv_has ls 1 [(0, .ref (ee.1 0))] := hl
  have hx := F.1
  have hb := F.2.1
  unfold f_J0_isLatin1_aae02_s0 at hf
  refine va_gets hx hb E.2.2.2.1 Z.2.2 F.2.2.2.1 (F.2.2.2.2 _ (List.mem_cons_of_mem _ wd437)) (fun _ h => h) dJ0_isLatin1_aae02_0 ?_
  refine lv_if_eq (tgt := 17) hx hb dJ0_isLatin1_aae02_3 (by decide) (fun c3 => ?_) (fun c3 => ?_)
  · have hf := if_t c3 hf
    refine lv_iconst (v := 0) hx hb dJ0_isLatin1_aae02_17 (by decide) ?_
    have hf := Option.some.inj hf
    subst hf
    exact ret_z F hr hk Z rfl dJ0_isLatin1_aae02_18
  have hf := if_f c3 hf
  refine lv_aload_n hx hb dJ0_isLatin1_aae02_6 rfl (lv_at hl 0 rfl) ?_
  refine vk_getf hx hb (E.2.1.1 0 (by decide)).2.1 Z.2.2 F.2.2.2.1 (F.2.2.2.2 _ (List.mem_cons_of_mem _ wd438)) (fun _ h => h) dJ0_isLatin1_aae02_7 ?_
  refine lv_if_ne (tgt := 17) hx hb dJ0_isLatin1_aae02_10 (by decide) (fun c10 => ?_) (fun c10 => ?_)
  · have hf := if_f c10 hf
    refine lv_iconst (v := 0) hx hb dJ0_isLatin1_aae02_17 (by decide) ?_
    have hf := Option.some.inj hf
    subst hf
    exact ret_z F hr hk Z rfl dJ0_isLatin1_aae02_18
  have hf := if_t c10 hf
  refine lv_iconst (v := 1) hx hb dJ0_isLatin1_aae02_13 (by decide) ?_
  refine lv_goto (tgt := 18) hx hb dJ0_isLatin1_aae02_14 (by decide) ?_
  have hf := Option.some.inj hf
  subst hf
  exact ret_z F hr hk Z rfl dJ0_isLatin1_aae02_18
def f_J0_coder_7d493_s0 (n : Nat) (st : StT) : Option (Int32 × StT) := if (1 : Int32) = 0 then (if isB (1 : Int32) = true then some ((1 : Int32), st) else none) else (if isB (0 : Int32) = true then some ((0 : Int32), st) else none)
set_option maxRecDepth 100000 in
set_option maxHeartbeats 4000000 in
theorem c_J0_coder_7d493_s0 {l : Launch} {D : va_G} {ad : Nat → Nat} {cy : Nat → ClassId} {ee : EE} {n : Nat} {st : StT} {res : (Int32 × StT)} (hf : f_J0_coder_7d493_s0 n st = some res) : CT l yJ0_coder_7d493 cJ0_coder_7d493 1 (some .byte) 0 0 D cy ee (wC ad cy st) (wC ad cy res.2) [.ref (ee.1 0)] (some (.int res.1)) := by
  refine CT.of (by decide +kernel) (Nat.le_of_ble_eq_true rfl) ?_
  intro p e s m args below meth c A F hr hk K E hA Z ls hl
  have hl : lv_has ls 1 [(0, .ref (ee.1 0))] := hl
  have hx := F.1
  have hb := F.2.1
  unfold f_J0_coder_7d493_s0 at hf
  refine va_gets hx hb E.2.2.2.1 Z.2.2 F.2.2.2.1 (F.2.2.2.2 _ (List.mem_cons_of_mem _ wd437)) (fun _ h => h) dJ0_coder_7d493_0 ?_
  refine lv_if_eq (tgt := 13) hx hb dJ0_coder_7d493_3 (by decide) (fun c3 => ?_) (fun c3 => ?_)
  · have hf := if_t c3 hf
    refine lv_iconst (v := 1) hx hb dJ0_coder_7d493_13 (by decide) ?_
    obtain ⟨i14, hf⟩ := if_some hf
    have hf := Option.some.inj hf
    subst hf
    exact ret_b F hr hk Z i14 dJ0_coder_7d493_14
  have hf := if_f c3 hf
  refine lv_aload_n hx hb dJ0_coder_7d493_6 rfl (lv_at hl 0 rfl) ?_
  refine vk_getf hx hb (E.2.1.1 0 (by decide)).2.1 Z.2.2 F.2.2.2.1 (F.2.2.2.2 _ (List.mem_cons_of_mem _ wd438)) (fun _ h => h) dJ0_coder_7d493_7 ?_
  refine lv_goto (tgt := 14) hx hb dJ0_coder_7d493_10 (by decide) ?_
  obtain ⟨i14, hf⟩ := if_some hf
  have hf := Option.some.inj hf
  subst hf
  exact ret_b F hr hk Z i14 dJ0_coder_7d493_14
def f_J0_length_8abf5_s0 (n : Nat) (st : StT) : Option (Int32 × StT) := (f_J0_coder_7d493_s0 n st).bind fun q6 => (some (((5 : Int32) >>> (q6.1 &&& 31)), q6.2))
theorem wd439 : Cond.methodLink RJ0 335 yJ0_coder_7d493 ∈ Gw := gT3 (List.mem_of_getElem? (i := 29) rfl) rfl
theorem wd440 : Cond.code yJ0_coder_7d493 prog_19_method_152_code 1 (some .byte) ∈ Gw := gT3 (List.mem_of_getElem? (i := 32) rfl) rfl
theorem wd441 : Cond.instanceMethod yJ0_coder_7d493 ∈ Gw := gT3 (List.mem_of_getElem? (i := 30) rfl) rfl
theorem wd442 : Cond.selects RJ0 yJ0_coder_7d493 yJ0_coder_7d493 ∈ Gw := gT3 (List.mem_of_getElem? (i := 31) rfl) rfl
theorem wd443 : Cond.initialized RJ0 ∈ Gw := gT1 (List.mem_of_getElem? (i := 15) rfl) rfl
section
variable {p : Program} {l : Launch} {e : Env} {R : Room} {s : State} {m : MethodId} {args : Array Value} {below : List Frame} {meth : Method} {c : Code} {H : Heap} {locs : List Loc} {Q : State → Prop}
variable {cc : ByteArray} {nL pc : Nat} {ls : Array Slot} {rest : List Value} {D : va_G} {A : Nat → Prop} {cw : Cond} {ad : Nat → Nat} {cy : Nat → ClassId} {ee : EE} {st : StT} {own : String}
theorem krJ0_335_J0_coder_7d493_s0 {n : Nat}  {q : (Int32 × StT)} (F : CallFix p m c cc nL s args (cw :: Gw) RJ0) (K : va_K D vwCl (tyL cy) s) (E : EV ee A s s.heap) (hA : ∀ q, s.heap.size ≤ q → A q) (Z : ZG D (wC ad cy st) A s H locs) (hf : f_J0_coder_7d493_s0 n st = some q) (hR : 1 ≤ R.frames ∧ 20 ≤ R.locals) (hl : ls.size = nL) (hst : (rest.map fun v => v.category).sum ≤ 8) (hd : decode cc pc = .ok (.invokevirtual 335, 3)) (kk : ∀ (H1 : Heap) (locs1 : List Loc), ZG D (wC ad cy q.2) A s H1 locs1 → W p l e R s m args below meth c H1 locs1 0 0 Q (F0 m (pc + 3) ls (.int q.1 :: rest))) : W p l e R s m args below meth c H locs 0 0 Q (F0 m pc ls (.ref (ee.1 0) :: rest)) :=
  call_K (n := 0) (As := []) (rv := some (.int q.1)) 0 F K E hA Z (c_J0_coder_7d493_s0 (l := l) (D := D) (ad := ad) (cy := cy) (ee := ee) hf) ⟨wd440, wd439, wd441, wd442, wd443⟩ (by decide +kernel) (by decide) hR rfl hl hst hd kk
end
set_option maxRecDepth 100000 in
set_option maxHeartbeats 4000000 in
theorem c_J0_length_8abf5_s0 {l : Launch} {D : va_G} {ad : Nat → Nat} {cy : Nat → ClassId} {ee : EE} {n : Nat} {st : StT} {res : (Int32 × StT)} (hf : f_J0_length_8abf5_s0 n st = some res) : CT l yJ0_length_8abf5 cJ0_length_8abf5 1 (some .int) 1 20 D cy ee (wC ad cy st) (wC ad cy res.2) [.ref (ee.1 0)] (some (.int res.1)) := by
  refine CT.of (by decide +kernel) (Nat.le_of_ble_eq_true rfl) ?_
  intro p e s m args below meth c A F hr hk K E hA Z ls hl
  have hl : lv_has ls 1 [(0, .ref (ee.1 0))] := hl
  have hx := F.1
  have hb := F.2.1
  unfold f_J0_length_8abf5_s0 at hf
  refine lv_aload_n hx hb dJ0_length_8abf5_0 rfl (lv_at hl 0 rfl) ?_
  refine vk_getf hx hb (E.2.1.1 0 (by decide)).2.2.1 Z.2.2 F.2.2.2.1 (F.2.2.2.2 _ (List.mem_cons_of_mem _ wd436)) (fun _ h => h) dJ0_length_8abf5_1 ?_
  refine va_tlen hx hb (E.2.1.1 0 (by decide)).2.2.2 Z.2.2 (v := 5) (by decide) dJ0_length_8abf5_4 ?_
  refine lv_aload_n hx hb dJ0_length_8abf5_5 rfl (lv_at hl 0 rfl) ?_
  obtain ⟨q6, h6, hf⟩ := bind_some hf
  refine krJ0_335_J0_coder_7d493_s0 F K E hA Z h6 ⟨Nat.le_of_ble_eq_true rfl, Nat.le_of_ble_eq_true rfl⟩ hl.1 (Nat.le_of_ble_eq_true rfl) dJ0_length_8abf5_6 (fun H locs Z => ?_)
  refine lv_ishr hx hb dJ0_length_8abf5_9 ?_
  have hf := Option.some.inj hf
  subst hf
  exact ret_i F hr hk Z dJ0_length_8abf5_10
def f_J1_canEncode_9a6ad (n : Nat) (st : StT) (x0 : Int32) : Option (Int32 × StT) := if x0 < 0 then (some ((0 : Int32), st)) else (if (255 : Int32) < x0 then (some ((0 : Int32), st)) else (some ((1 : Int32), st)))
set_option maxRecDepth 100000 in
set_option maxHeartbeats 4000000 in
theorem c_J1_canEncode_9a6ad {l : Launch} {D : va_G} {ad : Nat → Nat} {cy : Nat → ClassId} {ee : EE} {n : Nat} {st : StT} {x0 : Int32} {res : (Int32 × StT)} (hf : f_J1_canEncode_9a6ad n st x0 = some res) : CT l yJ1_canEncode_9a6ad cJ1_canEncode_9a6ad 1 (some .boolean) 0 0 D cy ee (wC ad cy st) (wC ad cy res.2) [.int x0] (some (.int res.1)) := by
  refine CT.of (by decide +kernel) (Nat.le_of_ble_eq_true rfl) ?_
  intro p e s m args below meth c A F hr hk K E hA Z ls hl
  have hl : lv_has ls 1 [(0, .int x0)] := hl
  have hx := F.1
  have hb := F.2.1
  unfold f_J1_canEncode_9a6ad at hf
  refine lv_iload_n hx hb dJ1_canEncode_9a6ad_0 rfl (lv_at hl 0 rfl) ?_
  refine lv_if_lt (tgt := 15) hx hb dJ1_canEncode_9a6ad_1 (by decide) (fun c1 => ?_) (fun c1 => ?_)
  · have hf := if_t c1 hf
    refine lv_iconst (v := 0) hx hb dJ1_canEncode_9a6ad_15 (by decide) ?_
    have hf := Option.some.inj hf
    subst hf
    exact ret_z F hr hk Z rfl dJ1_canEncode_9a6ad_16
  have hf := if_f c1 hf
  refine lv_iload_n hx hb dJ1_canEncode_9a6ad_4 rfl (lv_at hl 0 rfl) ?_
  refine lv_sipush (v := 255) hx hb dJ1_canEncode_9a6ad_5 (by decide) ?_
  refine lv_icmp_gt (tgt := 15) hx hb dJ1_canEncode_9a6ad_8 (by decide) (fun c8 => ?_) (fun c8 => ?_)
  · have hf := if_t c8 hf
    refine lv_iconst (v := 0) hx hb dJ1_canEncode_9a6ad_15 (by decide) ?_
    have hf := Option.some.inj hf
    subst hf
    exact ret_z F hr hk Z rfl dJ1_canEncode_9a6ad_16
  have hf := if_f c8 hf
  refine lv_iconst (v := 1) hx hb dJ1_canEncode_9a6ad_11 (by decide) ?_
  refine lv_goto (tgt := 16) hx hb dJ1_canEncode_9a6ad_12 (by decide) ?_
  have hf := Option.some.inj hf
  subst hf
  exact ret_z F hr hk Z rfl dJ1_canEncode_9a6ad_16
def f_J1_indexOfChar_4cfef_v0_7 (n : Nat) : Nat → StT → Int32 → Int32 → Int32 → Option (Int32 × StT)
  | 0, _, _, _, _ => none
  | k + 1, st, x3, x4, x5 => if x3 ≤ x5 then (some ((-1 : Int32), st)) else (if inB x5 5 = true then (if ((strByt.getD 0 []).getD (x5).toNatClampNeg 0) = x4 then (some (x5, st)) else (f_J1_indexOfChar_4cfef_v0_7 n k st x3 x4 (x5 + (1 : Int32)))) else none)
def f_J1_indexOfChar_4cfef_v0 (n : Nat) (st : StT) (x1 : Int32) (x2 : Int32) (x3 : Int32) : Option (Int32 × StT) := f_J1_indexOfChar_4cfef_v0_7 n n st x3 x1.toInt8.toInt32 x2
set_option maxRecDepth 100000 in
set_option maxHeartbeats 4000000 in
theorem b_J1_indexOfChar_4cfef_v0_7 {p : Program} {l : Launch} {e : Env} {s : State} {m : MethodId} {args : Array Value} {below : List Frame} {meth : Method} {c : Code} {D : va_G} {A : Nat → Prop} {ad : Nat → Nat} {cy : Nat → ClassId} {ee : EE} {n : Nat} {res : (Int32 × StT)} (F : CallFix p m c cJ1_indexOfChar_4cfef 6 s args (Cond.code yJ1_indexOfChar_4cfef cJ1_indexOfChar_4cfef 6 (some .int) :: Gw) yJ1_indexOfChar_4cfef.cls) (hr : meth.sig.returnType = (some .int)) (hk : meth.locks = false) (K : va_K D vwCl (tyL cy) s) (E : EV ee A s s.heap) (hA : ∀ q, s.heap.size ≤ q → A q) : ∀ (k : Nat) (st : StT) (x3 : Int32) (x4 : Int32) (x5 : Int32), f_J1_indexOfChar_4cfef_v0_7 n k st x3 x4 x5 = some res → ∀ (H : Heap) (locs : List Loc) (ls : Array Slot), ZG D (wC ad cy st) A s H locs → lv_has ls 6 [(0, .ref (ee.2.1 0)), (3, .int x3), (4, .int x4), (5, .int x5)] → W p l e { frames := 0, cells := 0, slots := 0, locals := 0 } s m args below meth c H locs 0 0 (MQ below (QC D (some (.int res.1)) (wC ad cy res.2) A) args s 0 0 A) (F0 m 7 ls []) := by
  have hx := F.1
  have hb := F.2.1
  intro k
  induction k with
  | zero =>
    intro st x3 x4 x5 hf
    exact absurd hf (by simp [f_J1_indexOfChar_4cfef_v0_7])
  | succ k ih =>
    intro st x3 x4 x5 hf H locs ls Z hl
    rw [f_J1_indexOfChar_4cfef_v0_7] at hf
    refine lv_iload hx hb dJ1_indexOfChar_4cfef_7 (lv_at hl 3 rfl) ?_
    refine lv_iload_n hx hb dJ1_indexOfChar_4cfef_9 rfl (lv_at hl 1 rfl) ?_
    refine lv_icmp_ge (tgt := 31) hx hb dJ1_indexOfChar_4cfef_10 (by decide) (fun c10 => ?_) (fun c10 => ?_)
    · have hf := if_t c10 hf
      refine lv_iconst (v := -1) hx hb dJ1_indexOfChar_4cfef_31 (by decide) ?_
      have hf := Option.some.inj hf
      subst hf
      exact ret_i F hr hk Z dJ1_indexOfChar_4cfef_32
    have hf := if_f c10 hf
    refine lv_aload_n hx hb dJ1_indexOfChar_4cfef_13 rfl (lv_at hl 0 rfl) ?_
    refine lv_iload hx hb dJ1_indexOfChar_4cfef_14 (lv_at hl 3 rfl) ?_
    obtain ⟨i16, hf⟩ := if_some hf
    refine va_tb hx hb (E.2.1.1 0 (by decide)).2.2.2 Z.2.2 (inB_vp i16) rfl dJ1_indexOfChar_4cfef_16 ?_
    refine lv_iload hx hb dJ1_indexOfChar_4cfef_17 (lv_at hl 2 rfl) ?_
    refine lv_icmp_ne (tgt := 25) hx hb dJ1_indexOfChar_4cfef_19 (by decide) (fun c19 => ?_) (fun c19 => ?_)
    · have hf := if_f c19 hf
      refine lv_iinc (v := (x5 + (1 : Int32))) (lv' := [(5, .int (x5 + (1 : Int32))), (0, .ref (ee.2.1 0)), (3, .int x3), (4, .int x4)]) hx hb dJ1_indexOfChar_4cfef_25 hl (k := 3) rfl (congrArg (fun z => x5 + z) (by decide)) (by decide) rfl (fun ls hl => ?_)
      refine lv_goto (tgt := 7) hx hb dJ1_indexOfChar_4cfef_28 (by decide) ?_
      exact ih _ _ _ _ hf _ _ _ Z (lv_sub hl [1, 2, 3, 0] rfl)
    have hf := if_t c19 hf
    refine lv_iload hx hb dJ1_indexOfChar_4cfef_22 (lv_at hl 3 rfl) ?_
    have hf := Option.some.inj hf
    subst hf
    exact ret_i F hr hk Z dJ1_indexOfChar_4cfef_24
set_option maxRecDepth 100000 in
set_option maxHeartbeats 4000000 in
theorem c_J1_indexOfChar_4cfef_v0 {l : Launch} {D : va_G} {ad : Nat → Nat} {cy : Nat → ClassId} {ee : EE} {n : Nat} {st : StT} {x1 : Int32} {x2 : Int32} {x3 : Int32} {res : (Int32 × StT)} (hf : f_J1_indexOfChar_4cfef_v0 n st x1 x2 x3 = some res) : CT l yJ1_indexOfChar_4cfef cJ1_indexOfChar_4cfef 6 (some .int) 0 0 D cy ee (wC ad cy st) (wC ad cy res.2) [.ref (ee.2.1 0), .int x1, .int x2, .int x3] (some (.int res.1)) := by
  refine CT.of (by decide +kernel) (Nat.le_of_ble_eq_true rfl) ?_
  intro p e s m args below meth c A F hr hk K E hA Z ls hl
  have hl : lv_has ls 6 [(0, .ref (ee.2.1 0)), (1, .int x1), (2, .int x2), (3, .int x3)] := hl
  have hx := F.1
  have hb := F.2.1
  unfold f_J1_indexOfChar_4cfef_v0 at hf
  refine lv_iload_n hx hb dJ1_indexOfChar_4cfef_0 rfl (lv_at hl 1 rfl) ?_
  refine lv_i2b hx hb dJ1_indexOfChar_4cfef_1 rfl ?_
  refine lv_istore (lv' := [(4, .int x1.toInt8.toInt32), (0, .ref (ee.2.1 0)), (1, .int x1), (2, .int x2), (3, .int x3)]) hx hb dJ1_indexOfChar_4cfef_2 hl (by decide) rfl (fun ls hl => ?_)
  refine lv_iload_n hx hb dJ1_indexOfChar_4cfef_4 rfl (lv_at hl 3 rfl) ?_
  refine lv_istore (lv' := [(5, .int x2), (4, .int x1.toInt8.toInt32), (0, .ref (ee.2.1 0)), (1, .int x1), (2, .int x2), (3, .int x3)]) hx hb dJ1_indexOfChar_4cfef_5 hl (by decide) rfl (fun ls hl => ?_)
  exact b_J1_indexOfChar_4cfef_v0_7 F hr hk K E hA _ _ _ _ _ hf _ _ _ Z (lv_sub hl [2, 5, 1, 0] rfl)
def f_J1_indexOf_4cfef_v0 (n : Nat) (st : StT) (x1 : Int32) (x2 : Int32) (x3 : Int32) : Option (Int32 × StT) := (f_J1_canEncode_9a6ad n st x1).bind fun q1 => (if q1.1 = 0 then (some ((-1 : Int32), q1.2)) else (if (if x2 < (0 : Int32) then (0 : Int32) else x2) < (if (5 : Int32) < x3 then (5 : Int32) else x3) then ((f_J1_indexOfChar_4cfef_v0 n q1.2 x1 (if x2 < (0 : Int32) then (0 : Int32) else x2) (if (5 : Int32) < x3 then (5 : Int32) else x3)).bind fun q33 => (some (q33.1, q33.2))) else (some ((-1 : Int32), q1.2))))
theorem wd444 : Cond.methodLink RJ1 95 yJ1_indexOfChar_4cfef ∈ Gw := gT3 (List.mem_of_getElem? (i := 43) rfl) rfl
theorem wd445 : Cond.code yJ1_indexOfChar_4cfef prog_20_method_23_code 6 (some .int) ∈ Gw := gT3 (List.mem_of_getElem? (i := 45) rfl) rfl
theorem wd446 : Cond.static yJ1_indexOfChar_4cfef ∈ Gw := gT3 (List.mem_of_getElem? (i := 44) rfl) rfl
theorem wd447 : Cond.initialized RJ1 ∈ Gw := gT1 (List.mem_of_getElem? (i := 16) rfl) rfl
theorem wd448 : Cond.methodLink RJ1 38 yJ9_min_7cf53 ∈ Gw := gT3 (List.mem_of_getElem? (i := 40) rfl) rfl
theorem wd449 : Cond.methodLink RJ1 92 yJ9_max_7cf53 ∈ Gw := gT3 (List.mem_of_getElem? (i := 39) rfl) rfl
theorem wd450 : Cond.methodLink RJ1 88 yJ1_canEncode_9a6ad ∈ Gw := gT3 (List.mem_of_getElem? (i := 36) rfl) rfl
theorem wd451 : Cond.code yJ1_canEncode_9a6ad prog_20_method_4_code 1 (some .boolean) ∈ Gw := gT3 (List.mem_of_getElem? (i := 38) rfl) rfl
theorem wd452 : Cond.static yJ1_canEncode_9a6ad ∈ Gw := gT3 (List.mem_of_getElem? (i := 37) rfl) rfl
section
variable {p : Program} {l : Launch} {e : Env} {R : Room} {s : State} {m : MethodId} {args : Array Value} {below : List Frame} {meth : Method} {c : Code} {H : Heap} {locs : List Loc} {Q : State → Prop}
variable {cc : ByteArray} {nL pc : Nat} {ls : Array Slot} {rest : List Value} {D : va_G} {A : Nat → Prop} {cw : Cond} {ad : Nat → Nat} {cy : Nat → ClassId} {ee : EE} {st : StT} {own : String}
theorem krJ1_95_J1_indexOfChar_4cfef_v0 {n : Nat} {a1 : Int32} {a2 : Int32} {a3 : Int32} {q : (Int32 × StT)} (F : CallFix p m c cc nL s args (cw :: Gw) RJ1) (K : va_K D vwCl (tyL cy) s) (E : EV ee A s s.heap) (hA : ∀ q, s.heap.size ≤ q → A q) (Z : ZG D (wC ad cy st) A s H locs) (hf : f_J1_indexOfChar_4cfef_v0 n st a1 a2 a3 = some q) (hR : 1 ≤ R.frames ∧ 25 ≤ R.locals) (hl : ls.size = nL) (hst : (rest.map fun v => v.category).sum ≤ 8) (hd : decode cc pc = .ok (.invokestatic 95, 3)) (kk : ∀ (H1 : Heap) (locs1 : List Loc), ZG D (wC ad cy q.2) A s H1 locs1 → W p l e R s m args below meth c H1 locs1 0 0 Q (F0 m (pc + 3) ls (.int q.1 :: rest))) : W p l e R s m args below meth c H locs 0 0 Q (F0 m pc ls (.int a3 :: .int a2 :: .int a1 :: .ref (ee.2.1 0) :: rest)) :=
  call_S (n := 4) (As := [.ref (ee.2.1 0), .int a1, .int a2, .int a3]) (rv := some (.int q.1)) F K E hA Z (c_J1_indexOfChar_4cfef_v0 (l := l) (D := D) (ad := ad) (cy := cy) (ee := ee) hf) ⟨wd445, wd444, wd446, wd447⟩ (by decide +kernel) hR rfl hl hst hd kk
theorem krJ1_88_J1_canEncode_9a6ad {n : Nat} {a0 : Int32} {q : (Int32 × StT)} (F : CallFix p m c cc nL s args (cw :: Gw) RJ1) (K : va_K D vwCl (tyL cy) s) (E : EV ee A s s.heap) (hA : ∀ q, s.heap.size ≤ q → A q) (Z : ZG D (wC ad cy st) A s H locs) (hf : f_J1_canEncode_9a6ad n st a0 = some q) (hR : 1 ≤ R.frames ∧ 20 ≤ R.locals) (hl : ls.size = nL) (hst : (rest.map fun v => v.category).sum ≤ 8) (hd : decode cc pc = .ok (.invokestatic 88, 3)) (kk : ∀ (H1 : Heap) (locs1 : List Loc), ZG D (wC ad cy q.2) A s H1 locs1 → W p l e R s m args below meth c H1 locs1 0 0 Q (F0 m (pc + 3) ls (.int q.1 :: rest))) : W p l e R s m args below meth c H locs 0 0 Q (F0 m pc ls (.int a0 :: rest)) :=
  call_S (n := 1) (As := [.int a0]) (rv := some (.int q.1)) F K E hA Z (c_J1_canEncode_9a6ad (l := l) (D := D) (ad := ad) (cy := cy) (ee := ee) hf) ⟨wd451, wd450, wd452, wd447⟩ (by decide +kernel) hR rfl hl hst hd kk
end
set_option maxRecDepth 100000 in
set_option maxHeartbeats 4000000 in
theorem c_J1_indexOf_4cfef_v0 {l : Launch} {D : va_G} {ad : Nat → Nat} {cy : Nat → ClassId} {ee : EE} {n : Nat} {st : StT} {x1 : Int32} {x2 : Int32} {x3 : Int32} {res : (Int32 × StT)} (hf : f_J1_indexOf_4cfef_v0 n st x1 x2 x3 = some res) : CT l yJ1_indexOf_4cfef cJ1_indexOf_4cfef 4 (some .int) 1 25 D cy ee (wC ad cy st) (wC ad cy res.2) [.ref (ee.2.1 0), .int x1, .int x2, .int x3] (some (.int res.1)) := by
  refine CT.of (by decide +kernel) (Nat.le_of_ble_eq_true rfl) ?_
  intro p e s m args below meth c A F hr hk K E hA Z ls hl
  have hl : lv_has ls 4 [(0, .ref (ee.2.1 0)), (1, .int x1), (2, .int x2), (3, .int x3)] := hl
  have hx := F.1
  have hb := F.2.1
  unfold f_J1_indexOf_4cfef_v0 at hf
  refine lv_iload_n hx hb dJ1_indexOf_4cfef_0 rfl (lv_at hl 1 rfl) ?_
  obtain ⟨q1, h1, hf⟩ := bind_some hf
  refine krJ1_88_J1_canEncode_9a6ad F K E hA Z h1 ⟨Nat.le_of_ble_eq_true rfl, Nat.le_of_ble_eq_true rfl⟩ hl.1 (Nat.le_of_ble_eq_true rfl) dJ1_indexOf_4cfef_1 (fun H locs Z => ?_)
  refine lv_if_ne (tgt := 9) hx hb dJ1_indexOf_4cfef_4 (by decide) (fun c4 => ?_) (fun c4 => ?_)
  · have hf := if_f c4 hf
    refine lv_iload_n hx hb dJ1_indexOf_4cfef_9 rfl (lv_at hl 2 rfl) ?_
    refine lv_iconst (v := 0) hx hb dJ1_indexOf_4cfef_10 (by decide) ?_
    refine mth_max F (F.2.2.2.2 _ (List.mem_cons_of_mem _ wd449)) hl.1 (Nat.le_of_ble_eq_true rfl) (Nat.le_of_ble_eq_true rfl) dJ1_indexOf_4cfef_11 ?_
    refine lv_istore_n (lv' := [(2, .int (if x2 < (0 : Int32) then (0 : Int32) else x2)), (0, .ref (ee.2.1 0)), (1, .int x1), (3, .int x3)]) hx hb dJ1_indexOf_4cfef_14 rfl hl (by decide) rfl (fun ls hl => ?_)
    refine lv_iload_n hx hb dJ1_indexOf_4cfef_15 rfl (lv_at hl 3 rfl) ?_
    refine lv_aload_n hx hb dJ1_indexOf_4cfef_16 rfl (lv_at hl 1 rfl) ?_
    refine va_tlen hx hb (E.2.1.1 0 (by decide)).2.2.2 Z.2.2 (v := 5) (by decide) dJ1_indexOf_4cfef_17 ?_
    refine mth_min F (F.2.2.2.2 _ (List.mem_cons_of_mem _ wd448)) hl.1 (Nat.le_of_ble_eq_true rfl) (Nat.le_of_ble_eq_true rfl) dJ1_indexOf_4cfef_18 ?_
    refine lv_istore_n (lv' := [(3, .int (if (5 : Int32) < x3 then (5 : Int32) else x3)), (2, .int (if x2 < (0 : Int32) then (0 : Int32) else x2)), (0, .ref (ee.2.1 0)), (1, .int x1)]) hx hb dJ1_indexOf_4cfef_21 rfl hl (by decide) rfl (fun ls hl => ?_)
    refine lv_iload_n hx hb dJ1_indexOf_4cfef_22 rfl (lv_at hl 1 rfl) ?_
    refine lv_iload_n hx hb dJ1_indexOf_4cfef_23 rfl (lv_at hl 0 rfl) ?_
    refine lv_icmp_lt (tgt := 29) hx hb dJ1_indexOf_4cfef_24 (by decide) (fun c24 => ?_) (fun c24 => ?_)
    · have hf := if_t c24 hf
      refine lv_aload_n hx hb dJ1_indexOf_4cfef_29 rfl (lv_at hl 2 rfl) ?_
      refine lv_iload_n hx hb dJ1_indexOf_4cfef_30 rfl (lv_at hl 3 rfl) ?_
      refine lv_iload_n hx hb dJ1_indexOf_4cfef_31 rfl (lv_at hl 1 rfl) ?_
      refine lv_iload_n hx hb dJ1_indexOf_4cfef_32 rfl (lv_at hl 0 rfl) ?_
      obtain ⟨q33, h33, hf⟩ := bind_some hf
      refine krJ1_95_J1_indexOfChar_4cfef_v0 F K E hA Z h33 ⟨Nat.le_of_ble_eq_true rfl, Nat.le_of_ble_eq_true rfl⟩ hl.1 (Nat.le_of_ble_eq_true rfl) dJ1_indexOf_4cfef_33 (fun H locs Z => ?_)
      have hf := Option.some.inj hf
      subst hf
      exact ret_i F hr hk Z dJ1_indexOf_4cfef_36
    have hf := if_f c24 hf
    refine lv_iconst (v := -1) hx hb dJ1_indexOf_4cfef_27 (by decide) ?_
    have hf := Option.some.inj hf
    subst hf
    exact ret_i F hr hk Z dJ1_indexOf_4cfef_28
  have hf := if_t c4 hf
  refine lv_iconst (v := -1) hx hb dJ1_indexOf_4cfef_7 (by decide) ?_
  have hf := Option.some.inj hf
  subst hf
  exact ret_i F hr hk Z dJ1_indexOf_4cfef_8
def f_J0_indexOf_7cf53_s0 (n : Nat) (st : StT) (x1 : Int32) (x2 : Int32) : Option (Int32 × StT) := (f_J0_isLatin1_aae02_s0 n st).bind fun q1 => (if q1.1 = 0 then ((f_J0_length_8abf5_s0 n q1.2).bind fun q30 => (none)) else ((f_J0_length_8abf5_s0 n q1.2).bind fun q14 => ((f_J1_indexOf_4cfef_v0 n q14.2 x1 x2 q14.1).bind fun q17 => (some (q17.1, q17.2)))))
theorem wd453 : Cond.methodLink RJ0 505 yJ0_length_8abf5 ∈ Gw := gT3 (List.mem_of_getElem? (i := 25) rfl) rfl
theorem wd454 : Cond.code yJ0_length_8abf5 prog_19_method_54_code 1 (some .int) ∈ Gw := gT3 (List.mem_of_getElem? (i := 28) rfl) rfl
theorem wd455 : Cond.instanceMethod yJ0_length_8abf5 ∈ Gw := gT3 (List.mem_of_getElem? (i := 26) rfl) rfl
theorem wd456 : Cond.selects RJ0 yJ0_length_8abf5 yJ0_length_8abf5 ∈ Gw := gT3 (List.mem_of_getElem? (i := 27) rfl) rfl
theorem wd457 : Cond.methodLink RJ0 637 yJ1_indexOf_4cfef ∈ Gw := gT3 (List.mem_of_getElem? (i := 33) rfl) rfl
theorem wd458 : Cond.code yJ1_indexOf_4cfef prog_20_method_22_code 4 (some .int) ∈ Gw := gT3 (List.mem_of_getElem? (i := 35) rfl) rfl
theorem wd459 : Cond.static yJ1_indexOf_4cfef ∈ Gw := gT3 (List.mem_of_getElem? (i := 34) rfl) rfl
theorem wd460 : Cond.methodLink RJ0 492 yJ0_isLatin1_aae02 ∈ Gw := gT3 (List.mem_of_getElem? (i := 19) rfl) rfl
theorem wd461 : Cond.code yJ0_isLatin1_aae02 prog_19_method_154_code 1 (some .boolean) ∈ Gw := gT3 (List.mem_of_getElem? (i := 22) rfl) rfl
theorem wd462 : Cond.instanceMethod yJ0_isLatin1_aae02 ∈ Gw := gT3 (List.mem_of_getElem? (i := 20) rfl) rfl
theorem wd463 : Cond.selects RJ0 yJ0_isLatin1_aae02 yJ0_isLatin1_aae02 ∈ Gw := gT3 (List.mem_of_getElem? (i := 21) rfl) rfl
section
variable {p : Program} {l : Launch} {e : Env} {R : Room} {s : State} {m : MethodId} {args : Array Value} {below : List Frame} {meth : Method} {c : Code} {H : Heap} {locs : List Loc} {Q : State → Prop}
variable {cc : ByteArray} {nL pc : Nat} {ls : Array Slot} {rest : List Value} {D : va_G} {A : Nat → Prop} {cw : Cond} {ad : Nat → Nat} {cy : Nat → ClassId} {ee : EE} {st : StT} {own : String}
theorem krJ0_505_J0_length_8abf5_s0 {n : Nat}  {q : (Int32 × StT)} (F : CallFix p m c cc nL s args (cw :: Gw) RJ0) (K : va_K D vwCl (tyL cy) s) (E : EV ee A s s.heap) (hA : ∀ q, s.heap.size ≤ q → A q) (Z : ZG D (wC ad cy st) A s H locs) (hf : f_J0_length_8abf5_s0 n st = some q) (hR : 2 ≤ R.frames ∧ 40 ≤ R.locals) (hl : ls.size = nL) (hst : (rest.map fun v => v.category).sum ≤ 8) (hd : decode cc pc = .ok (.invokevirtual 505, 3)) (kk : ∀ (H1 : Heap) (locs1 : List Loc), ZG D (wC ad cy q.2) A s H1 locs1 → W p l e R s m args below meth c H1 locs1 0 0 Q (F0 m (pc + 3) ls (.int q.1 :: rest))) : W p l e R s m args below meth c H locs 0 0 Q (F0 m pc ls (.ref (ee.1 0) :: rest)) :=
  call_K (n := 0) (As := []) (rv := some (.int q.1)) 0 F K E hA Z (c_J0_length_8abf5_s0 (l := l) (D := D) (ad := ad) (cy := cy) (ee := ee) hf) ⟨wd454, wd453, wd455, wd456, wd443⟩ (by decide +kernel) (by decide) hR rfl hl hst hd kk
theorem krJ0_637_J1_indexOf_4cfef_v0 {n : Nat} {a1 : Int32} {a2 : Int32} {a3 : Int32} {q : (Int32 × StT)} (F : CallFix p m c cc nL s args (cw :: Gw) RJ0) (K : va_K D vwCl (tyL cy) s) (E : EV ee A s s.heap) (hA : ∀ q, s.heap.size ≤ q → A q) (Z : ZG D (wC ad cy st) A s H locs) (hf : f_J1_indexOf_4cfef_v0 n st a1 a2 a3 = some q) (hR : 2 ≤ R.frames ∧ 48 ≤ R.locals) (hl : ls.size = nL) (hst : (rest.map fun v => v.category).sum ≤ 8) (hd : decode cc pc = .ok (.invokestatic 637, 3)) (kk : ∀ (H1 : Heap) (locs1 : List Loc), ZG D (wC ad cy q.2) A s H1 locs1 → W p l e R s m args below meth c H1 locs1 0 0 Q (F0 m (pc + 3) ls (.int q.1 :: rest))) : W p l e R s m args below meth c H locs 0 0 Q (F0 m pc ls (.int a3 :: .int a2 :: .int a1 :: .ref (ee.2.1 0) :: rest)) :=
  call_S (n := 4) (As := [.ref (ee.2.1 0), .int a1, .int a2, .int a3]) (rv := some (.int q.1)) F K E hA Z (c_J1_indexOf_4cfef_v0 (l := l) (D := D) (ad := ad) (cy := cy) (ee := ee) hf) ⟨wd458, wd457, wd459, wd447⟩ (by decide +kernel) hR rfl hl hst hd kk
theorem krJ0_492_J0_isLatin1_aae02_s0 {n : Nat}  {q : (Int32 × StT)} (F : CallFix p m c cc nL s args (cw :: Gw) RJ0) (K : va_K D vwCl (tyL cy) s) (E : EV ee A s s.heap) (hA : ∀ q, s.heap.size ≤ q → A q) (Z : ZG D (wC ad cy st) A s H locs) (hf : f_J0_isLatin1_aae02_s0 n st = some q) (hR : 1 ≤ R.frames ∧ 20 ≤ R.locals) (hl : ls.size = nL) (hst : (rest.map fun v => v.category).sum ≤ 8) (hd : decode cc pc = .ok (.invokevirtual 492, 3)) (kk : ∀ (H1 : Heap) (locs1 : List Loc), ZG D (wC ad cy q.2) A s H1 locs1 → W p l e R s m args below meth c H1 locs1 0 0 Q (F0 m (pc + 3) ls (.int q.1 :: rest))) : W p l e R s m args below meth c H locs 0 0 Q (F0 m pc ls (.ref (ee.1 0) :: rest)) :=
  call_K (n := 0) (As := []) (rv := some (.int q.1)) 0 F K E hA Z (c_J0_isLatin1_aae02_s0 (l := l) (D := D) (ad := ad) (cy := cy) (ee := ee) hf) ⟨wd461, wd460, wd462, wd463, wd443⟩ (by decide +kernel) (by decide) hR rfl hl hst hd kk
end
set_option maxRecDepth 100000 in
set_option maxHeartbeats 4000000 in
theorem c_J0_indexOf_7cf53_s0 {l : Launch} {D : va_G} {ad : Nat → Nat} {cy : Nat → ClassId} {ee : EE} {n : Nat} {st : StT} {x1 : Int32} {x2 : Int32} {res : (Int32 × StT)} (hf : f_J0_indexOf_7cf53_s0 n st x1 x2 = some res) : CT l yJ0_indexOf_7cf53 cJ0_indexOf_7cf53 3 (some .int) 2 48 D cy ee (wC ad cy st) (wC ad cy res.2) [.ref (ee.1 0), .int x1, .int x2] (some (.int res.1)) := by
  refine CT.of (by decide +kernel) (Nat.le_of_ble_eq_true rfl) ?_
  intro p e s m args below meth c A F hr hk K E hA Z ls hl
  have hl : lv_has ls 3 [(0, .ref (ee.1 0)), (1, .int x1), (2, .int x2)] := hl
  have hx := F.1
  have hb := F.2.1
  unfold f_J0_indexOf_7cf53_s0 at hf
  refine lv_aload_n hx hb dJ0_indexOf_7cf53_0 rfl (lv_at hl 0 rfl) ?_
  obtain ⟨q1, h1, hf⟩ := bind_some hf
  refine krJ0_492_J0_isLatin1_aae02_s0 F K E hA Z h1 ⟨Nat.le_of_ble_eq_true rfl, Nat.le_of_ble_eq_true rfl⟩ hl.1 (Nat.le_of_ble_eq_true rfl) dJ0_indexOf_7cf53_1 (fun H locs Z => ?_)
  refine lv_if_eq (tgt := 23) hx hb dJ0_indexOf_7cf53_4 (by decide) (fun c4 => ?_) (fun c4 => ?_)
  · have hf := if_t c4 hf
    refine lv_aload_n hx hb dJ0_indexOf_7cf53_23 rfl (lv_at hl 0 rfl) ?_
    refine vk_getf hx hb (E.2.1.1 0 (by decide)).2.2.1 Z.2.2 F.2.2.2.1 (F.2.2.2.2 _ (List.mem_cons_of_mem _ wd436)) (fun _ h => h) dJ0_indexOf_7cf53_24 ?_
    refine lv_iload_n hx hb dJ0_indexOf_7cf53_27 rfl (lv_at hl 1 rfl) ?_
    refine lv_iload_n hx hb dJ0_indexOf_7cf53_28 rfl (lv_at hl 2 rfl) ?_
    refine lv_aload_n hx hb dJ0_indexOf_7cf53_29 rfl (lv_at hl 0 rfl) ?_
    obtain ⟨q30, h30, hf⟩ := bind_some hf
    refine krJ0_505_J0_length_8abf5_s0 F K E hA Z h30 ⟨Nat.le_of_ble_eq_true rfl, Nat.le_of_ble_eq_true rfl⟩ hl.1 (Nat.le_of_ble_eq_true rfl) dJ0_indexOf_7cf53_30 (fun H locs Z => ?_)
    cases hf
  have hf := if_f c4 hf
  refine lv_aload_n hx hb dJ0_indexOf_7cf53_7 rfl (lv_at hl 0 rfl) ?_
  refine vk_getf hx hb (E.2.1.1 0 (by decide)).2.2.1 Z.2.2 F.2.2.2.1 (F.2.2.2.2 _ (List.mem_cons_of_mem _ wd436)) (fun _ h => h) dJ0_indexOf_7cf53_8 ?_
  refine lv_iload_n hx hb dJ0_indexOf_7cf53_11 rfl (lv_at hl 1 rfl) ?_
  refine lv_iload_n hx hb dJ0_indexOf_7cf53_12 rfl (lv_at hl 2 rfl) ?_
  refine lv_aload_n hx hb dJ0_indexOf_7cf53_13 rfl (lv_at hl 0 rfl) ?_
  obtain ⟨q14, h14, hf⟩ := bind_some hf
  refine krJ0_505_J0_length_8abf5_s0 F K E hA Z h14 ⟨Nat.le_of_ble_eq_true rfl, Nat.le_of_ble_eq_true rfl⟩ hl.1 (Nat.le_of_ble_eq_true rfl) dJ0_indexOf_7cf53_14 (fun H locs Z => ?_)
  obtain ⟨q17, h17, hf⟩ := bind_some hf
  refine krJ0_637_J1_indexOf_4cfef_v0 F K E hA Z h17 ⟨Nat.le_of_ble_eq_true rfl, Nat.le_of_ble_eq_true rfl⟩ hl.1 (Nat.le_of_ble_eq_true rfl) dJ0_indexOf_7cf53_17 (fun H locs Z => ?_)
  refine lv_goto (tgt := 36) hx hb dJ0_indexOf_7cf53_20 (by decide) ?_
  have hf := Option.some.inj hf
  subst hf
  exact ret_i F hr hk Z dJ0_indexOf_7cf53_36
def f_J0_indexOf_0f7a4_s0 (n : Nat) (st : StT) (x1 : Int32) : Option (Int32 × StT) := (f_J0_indexOf_7cf53_s0 n st x1 (0 : Int32)).bind fun q3 => (some (q3.1, q3.2))
theorem wd464 : Cond.methodLink RJ0 633 yJ0_indexOf_7cf53 ∈ Gw := gT3 (List.mem_of_getElem? (i := 15) rfl) rfl
theorem wd465 : Cond.code yJ0_indexOf_7cf53 prog_19_method_80_code 3 (some .int) ∈ Gw := gT3 (List.mem_of_getElem? (i := 18) rfl) rfl
theorem wd466 : Cond.instanceMethod yJ0_indexOf_7cf53 ∈ Gw := gT3 (List.mem_of_getElem? (i := 16) rfl) rfl
theorem wd467 : Cond.selects RJ0 yJ0_indexOf_7cf53 yJ0_indexOf_7cf53 ∈ Gw := gT3 (List.mem_of_getElem? (i := 17) rfl) rfl
section
variable {p : Program} {l : Launch} {e : Env} {R : Room} {s : State} {m : MethodId} {args : Array Value} {below : List Frame} {meth : Method} {c : Code} {H : Heap} {locs : List Loc} {Q : State → Prop}
variable {cc : ByteArray} {nL pc : Nat} {ls : Array Slot} {rest : List Value} {D : va_G} {A : Nat → Prop} {cw : Cond} {ad : Nat → Nat} {cy : Nat → ClassId} {ee : EE} {st : StT} {own : String}
theorem krJ0_633_J0_indexOf_7cf53_s0 {n : Nat} {a0 : Int32} {a1 : Int32} {q : (Int32 × StT)} (F : CallFix p m c cc nL s args (cw :: Gw) RJ0) (K : va_K D vwCl (tyL cy) s) (E : EV ee A s s.heap) (hA : ∀ q, s.heap.size ≤ q → A q) (Z : ZG D (wC ad cy st) A s H locs) (hf : f_J0_indexOf_7cf53_s0 n st a0 a1 = some q) (hR : 3 ≤ R.frames ∧ 70 ≤ R.locals) (hl : ls.size = nL) (hst : (rest.map fun v => v.category).sum ≤ 8) (hd : decode cc pc = .ok (.invokevirtual 633, 3)) (kk : ∀ (H1 : Heap) (locs1 : List Loc), ZG D (wC ad cy q.2) A s H1 locs1 → W p l e R s m args below meth c H1 locs1 0 0 Q (F0 m (pc + 3) ls (.int q.1 :: rest))) : W p l e R s m args below meth c H locs 0 0 Q (F0 m pc ls (.int a1 :: .int a0 :: .ref (ee.1 0) :: rest)) :=
  call_K (n := 2) (As := [.int a0, .int a1]) (rv := some (.int q.1)) 0 F K E hA Z (c_J0_indexOf_7cf53_s0 (l := l) (D := D) (ad := ad) (cy := cy) (ee := ee) hf) ⟨wd465, wd464, wd466, wd467, wd443⟩ (by decide +kernel) (by decide) hR rfl hl hst hd kk
end
set_option maxRecDepth 100000 in
set_option maxHeartbeats 4000000 in
theorem c_J0_indexOf_0f7a4_s0 {l : Launch} {D : va_G} {ad : Nat → Nat} {cy : Nat → ClassId} {ee : EE} {n : Nat} {st : StT} {x1 : Int32} {res : (Int32 × StT)} (hf : f_J0_indexOf_0f7a4_s0 n st x1 = some res) : CT l yJ0_indexOf_0f7a4 cJ0_indexOf_0f7a4 2 (some .int) 3 70 D cy ee (wC ad cy st) (wC ad cy res.2) [.ref (ee.1 0), .int x1] (some (.int res.1)) := by
  refine CT.of (by decide +kernel) (Nat.le_of_ble_eq_true rfl) ?_
  intro p e s m args below meth c A F hr hk K E hA Z ls hl
  have hl : lv_has ls 2 [(0, .ref (ee.1 0)), (1, .int x1)] := hl
  have hx := F.1
  have hb := F.2.1
  unfold f_J0_indexOf_0f7a4_s0 at hf
  refine lv_aload_n hx hb dJ0_indexOf_0f7a4_0 rfl (lv_at hl 0 rfl) ?_
  refine lv_iload_n hx hb dJ0_indexOf_0f7a4_1 rfl (lv_at hl 1 rfl) ?_
  refine lv_iconst (v := 0) hx hb dJ0_indexOf_0f7a4_2 (by decide) ?_
  obtain ⟨q3, h3, hf⟩ := bind_some hf
  refine krJ0_633_J0_indexOf_7cf53_s0 F K E hA Z h3 ⟨Nat.le_of_ble_eq_true rfl, Nat.le_of_ble_eq_true rfl⟩ hl.1 (Nat.le_of_ble_eq_true rfl) dJ0_indexOf_0f7a4_3 (fun H locs Z => ?_)
  have hf := Option.some.inj hf
  subst hf
  exact ret_i F hr hk Z dJ0_indexOf_0f7a4_6
def f_J0_isLatin1_aae02_s1 (n : Nat) (st : StT) : Option (Int32 × StT) := if (1 : Int32) = 0 then (some ((0 : Int32), st)) else (if (0 : Int32) = 0 then (some ((1 : Int32), st)) else (some ((0 : Int32), st)))
set_option maxRecDepth 100000 in
set_option maxHeartbeats 4000000 in
theorem c_J0_isLatin1_aae02_s1 {l : Launch} {D : va_G} {ad : Nat → Nat} {cy : Nat → ClassId} {ee : EE} {n : Nat} {st : StT} {res : (Int32 × StT)} (hf : f_J0_isLatin1_aae02_s1 n st = some res) : CT l yJ0_isLatin1_aae02 cJ0_isLatin1_aae02 1 (some .boolean) 0 0 D cy ee (wC ad cy st) (wC ad cy res.2) [.ref (ee.1 1)] (some (.int res.1)) := by
  refine CT.of (by decide +kernel) (Nat.le_of_ble_eq_true rfl) ?_
  intro p e s m args below meth c A F hr hk K E hA Z ls hl
  have hl : lv_has ls 1 [(0, .ref (ee.1 1))] := hl
  have hx := F.1
  have hb := F.2.1
  unfold f_J0_isLatin1_aae02_s1 at hf
  refine va_gets hx hb E.2.2.2.1 Z.2.2 F.2.2.2.1 (F.2.2.2.2 _ (List.mem_cons_of_mem _ wd437)) (fun _ h => h) dJ0_isLatin1_aae02_0 ?_
  refine lv_if_eq (tgt := 17) hx hb dJ0_isLatin1_aae02_3 (by decide) (fun c3 => ?_) (fun c3 => ?_)
  · have hf := if_t c3 hf
    refine lv_iconst (v := 0) hx hb dJ0_isLatin1_aae02_17 (by decide) ?_
    have hf := Option.some.inj hf
    subst hf
    exact ret_z F hr hk Z rfl dJ0_isLatin1_aae02_18
  have hf := if_f c3 hf
  refine lv_aload_n hx hb dJ0_isLatin1_aae02_6 rfl (lv_at hl 0 rfl) ?_
  refine vk_getf hx hb (E.2.1.1 1 (by decide)).2.1 Z.2.2 F.2.2.2.1 (F.2.2.2.2 _ (List.mem_cons_of_mem _ wd438)) (fun _ h => h) dJ0_isLatin1_aae02_7 ?_
  refine lv_if_ne (tgt := 17) hx hb dJ0_isLatin1_aae02_10 (by decide) (fun c10 => ?_) (fun c10 => ?_)
  · have hf := if_f c10 hf
    refine lv_iconst (v := 0) hx hb dJ0_isLatin1_aae02_17 (by decide) ?_
    have hf := Option.some.inj hf
    subst hf
    exact ret_z F hr hk Z rfl dJ0_isLatin1_aae02_18
  have hf := if_t c10 hf
  refine lv_iconst (v := 1) hx hb dJ0_isLatin1_aae02_13 (by decide) ?_
  refine lv_goto (tgt := 18) hx hb dJ0_isLatin1_aae02_14 (by decide) ?_
  have hf := Option.some.inj hf
  subst hf
  exact ret_z F hr hk Z rfl dJ0_isLatin1_aae02_18
def f_J0_coder_7d493_s1 (n : Nat) (st : StT) : Option (Int32 × StT) := if (1 : Int32) = 0 then (if isB (1 : Int32) = true then some ((1 : Int32), st) else none) else (if isB (0 : Int32) = true then some ((0 : Int32), st) else none)
set_option maxRecDepth 100000 in
set_option maxHeartbeats 4000000 in
theorem c_J0_coder_7d493_s1 {l : Launch} {D : va_G} {ad : Nat → Nat} {cy : Nat → ClassId} {ee : EE} {n : Nat} {st : StT} {res : (Int32 × StT)} (hf : f_J0_coder_7d493_s1 n st = some res) : CT l yJ0_coder_7d493 cJ0_coder_7d493 1 (some .byte) 0 0 D cy ee (wC ad cy st) (wC ad cy res.2) [.ref (ee.1 1)] (some (.int res.1)) := by
  refine CT.of (by decide +kernel) (Nat.le_of_ble_eq_true rfl) ?_
  intro p e s m args below meth c A F hr hk K E hA Z ls hl
  have hl : lv_has ls 1 [(0, .ref (ee.1 1))] := hl
  have hx := F.1
  have hb := F.2.1
  unfold f_J0_coder_7d493_s1 at hf
  refine va_gets hx hb E.2.2.2.1 Z.2.2 F.2.2.2.1 (F.2.2.2.2 _ (List.mem_cons_of_mem _ wd437)) (fun _ h => h) dJ0_coder_7d493_0 ?_
  refine lv_if_eq (tgt := 13) hx hb dJ0_coder_7d493_3 (by decide) (fun c3 => ?_) (fun c3 => ?_)
  · have hf := if_t c3 hf
    refine lv_iconst (v := 1) hx hb dJ0_coder_7d493_13 (by decide) ?_
    obtain ⟨i14, hf⟩ := if_some hf
    have hf := Option.some.inj hf
    subst hf
    exact ret_b F hr hk Z i14 dJ0_coder_7d493_14
  have hf := if_f c3 hf
  refine lv_aload_n hx hb dJ0_coder_7d493_6 rfl (lv_at hl 0 rfl) ?_
  refine vk_getf hx hb (E.2.1.1 1 (by decide)).2.1 Z.2.2 F.2.2.2.1 (F.2.2.2.2 _ (List.mem_cons_of_mem _ wd438)) (fun _ h => h) dJ0_coder_7d493_7 ?_
  refine lv_goto (tgt := 14) hx hb dJ0_coder_7d493_10 (by decide) ?_
  obtain ⟨i14, hf⟩ := if_some hf
  have hf := Option.some.inj hf
  subst hf
  exact ret_b F hr hk Z i14 dJ0_coder_7d493_14
def f_J0_length_8abf5_s1 (n : Nat) (st : StT) : Option (Int32 × StT) := (f_J0_coder_7d493_s1 n st).bind fun q6 => (some (((11 : Int32) >>> (q6.1 &&& 31)), q6.2))
section
variable {p : Program} {l : Launch} {e : Env} {R : Room} {s : State} {m : MethodId} {args : Array Value} {below : List Frame} {meth : Method} {c : Code} {H : Heap} {locs : List Loc} {Q : State → Prop}
variable {cc : ByteArray} {nL pc : Nat} {ls : Array Slot} {rest : List Value} {D : va_G} {A : Nat → Prop} {cw : Cond} {ad : Nat → Nat} {cy : Nat → ClassId} {ee : EE} {st : StT} {own : String}
theorem krJ0_335_J0_coder_7d493_s1 {n : Nat}  {q : (Int32 × StT)} (F : CallFix p m c cc nL s args (cw :: Gw) RJ0) (K : va_K D vwCl (tyL cy) s) (E : EV ee A s s.heap) (hA : ∀ q, s.heap.size ≤ q → A q) (Z : ZG D (wC ad cy st) A s H locs) (hf : f_J0_coder_7d493_s1 n st = some q) (hR : 1 ≤ R.frames ∧ 20 ≤ R.locals) (hl : ls.size = nL) (hst : (rest.map fun v => v.category).sum ≤ 8) (hd : decode cc pc = .ok (.invokevirtual 335, 3)) (kk : ∀ (H1 : Heap) (locs1 : List Loc), ZG D (wC ad cy q.2) A s H1 locs1 → W p l e R s m args below meth c H1 locs1 0 0 Q (F0 m (pc + 3) ls (.int q.1 :: rest))) : W p l e R s m args below meth c H locs 0 0 Q (F0 m pc ls (.ref (ee.1 1) :: rest)) :=
  call_K (n := 0) (As := []) (rv := some (.int q.1)) 1 F K E hA Z (c_J0_coder_7d493_s1 (l := l) (D := D) (ad := ad) (cy := cy) (ee := ee) hf) ⟨wd440, wd439, wd441, wd442, wd443⟩ (by decide +kernel) (by decide) hR rfl hl hst hd kk
end
set_option maxRecDepth 100000 in
set_option maxHeartbeats 4000000 in
theorem c_J0_length_8abf5_s1 {l : Launch} {D : va_G} {ad : Nat → Nat} {cy : Nat → ClassId} {ee : EE} {n : Nat} {st : StT} {res : (Int32 × StT)} (hf : f_J0_length_8abf5_s1 n st = some res) : CT l yJ0_length_8abf5 cJ0_length_8abf5 1 (some .int) 1 20 D cy ee (wC ad cy st) (wC ad cy res.2) [.ref (ee.1 1)] (some (.int res.1)) := by
  refine CT.of (by decide +kernel) (Nat.le_of_ble_eq_true rfl) ?_
  intro p e s m args below meth c A F hr hk K E hA Z ls hl
  have hl : lv_has ls 1 [(0, .ref (ee.1 1))] := hl
  have hx := F.1
  have hb := F.2.1
  unfold f_J0_length_8abf5_s1 at hf
  refine lv_aload_n hx hb dJ0_length_8abf5_0 rfl (lv_at hl 0 rfl) ?_
  refine vk_getf hx hb (E.2.1.1 1 (by decide)).2.2.1 Z.2.2 F.2.2.2.1 (F.2.2.2.2 _ (List.mem_cons_of_mem _ wd436)) (fun _ h => h) dJ0_length_8abf5_1 ?_
  refine va_tlen hx hb (E.2.1.1 1 (by decide)).2.2.2 Z.2.2 (v := 11) (by decide) dJ0_length_8abf5_4 ?_
  refine lv_aload_n hx hb dJ0_length_8abf5_5 rfl (lv_at hl 0 rfl) ?_
  obtain ⟨q6, h6, hf⟩ := bind_some hf
  refine krJ0_335_J0_coder_7d493_s1 F K E hA Z h6 ⟨Nat.le_of_ble_eq_true rfl, Nat.le_of_ble_eq_true rfl⟩ hl.1 (Nat.le_of_ble_eq_true rfl) dJ0_length_8abf5_6 (fun H locs Z => ?_)
  refine lv_ishr hx hb dJ0_length_8abf5_9 ?_
  have hf := Option.some.inj hf
  subst hf
  exact ret_i F hr hk Z dJ0_length_8abf5_10
def f_J1_indexOfChar_4cfef_v1_7 (n : Nat) : Nat → StT → Int32 → Int32 → Int32 → Option (Int32 × StT)
  | 0, _, _, _, _ => none
  | k + 1, st, x3, x4, x5 => if x3 ≤ x5 then (some ((-1 : Int32), st)) else (if inB x5 11 = true then (if ((strByt.getD 1 []).getD (x5).toNatClampNeg 0) = x4 then (some (x5, st)) else (f_J1_indexOfChar_4cfef_v1_7 n k st x3 x4 (x5 + (1 : Int32)))) else none)
def f_J1_indexOfChar_4cfef_v1 (n : Nat) (st : StT) (x1 : Int32) (x2 : Int32) (x3 : Int32) : Option (Int32 × StT) := f_J1_indexOfChar_4cfef_v1_7 n n st x3 x1.toInt8.toInt32 x2
set_option maxRecDepth 100000 in
set_option maxHeartbeats 4000000 in
theorem b_J1_indexOfChar_4cfef_v1_7 {p : Program} {l : Launch} {e : Env} {s : State} {m : MethodId} {args : Array Value} {below : List Frame} {meth : Method} {c : Code} {D : va_G} {A : Nat → Prop} {ad : Nat → Nat} {cy : Nat → ClassId} {ee : EE} {n : Nat} {res : (Int32 × StT)} (F : CallFix p m c cJ1_indexOfChar_4cfef 6 s args (Cond.code yJ1_indexOfChar_4cfef cJ1_indexOfChar_4cfef 6 (some .int) :: Gw) yJ1_indexOfChar_4cfef.cls) (hr : meth.sig.returnType = (some .int)) (hk : meth.locks = false) (K : va_K D vwCl (tyL cy) s) (E : EV ee A s s.heap) (hA : ∀ q, s.heap.size ≤ q → A q) : ∀ (k : Nat) (st : StT) (x3 : Int32) (x4 : Int32) (x5 : Int32), f_J1_indexOfChar_4cfef_v1_7 n k st x3 x4 x5 = some res → ∀ (H : Heap) (locs : List Loc) (ls : Array Slot), ZG D (wC ad cy st) A s H locs → lv_has ls 6 [(0, .ref (ee.2.1 1)), (3, .int x3), (4, .int x4), (5, .int x5)] → W p l e { frames := 0, cells := 0, slots := 0, locals := 0 } s m args below meth c H locs 0 0 (MQ below (QC D (some (.int res.1)) (wC ad cy res.2) A) args s 0 0 A) (F0 m 7 ls []) := by
  have hx := F.1
  have hb := F.2.1
  intro k
  induction k with
  | zero =>
    intro st x3 x4 x5 hf
    exact absurd hf (by simp [f_J1_indexOfChar_4cfef_v1_7])
  | succ k ih =>
    intro st x3 x4 x5 hf H locs ls Z hl
    rw [f_J1_indexOfChar_4cfef_v1_7] at hf
    refine lv_iload hx hb dJ1_indexOfChar_4cfef_7 (lv_at hl 3 rfl) ?_
    refine lv_iload_n hx hb dJ1_indexOfChar_4cfef_9 rfl (lv_at hl 1 rfl) ?_
    refine lv_icmp_ge (tgt := 31) hx hb dJ1_indexOfChar_4cfef_10 (by decide) (fun c10 => ?_) (fun c10 => ?_)
    · have hf := if_t c10 hf
      refine lv_iconst (v := -1) hx hb dJ1_indexOfChar_4cfef_31 (by decide) ?_
      have hf := Option.some.inj hf
      subst hf
      exact ret_i F hr hk Z dJ1_indexOfChar_4cfef_32
    have hf := if_f c10 hf
    refine lv_aload_n hx hb dJ1_indexOfChar_4cfef_13 rfl (lv_at hl 0 rfl) ?_
    refine lv_iload hx hb dJ1_indexOfChar_4cfef_14 (lv_at hl 3 rfl) ?_
    obtain ⟨i16, hf⟩ := if_some hf
    refine va_tb hx hb (E.2.1.1 1 (by decide)).2.2.2 Z.2.2 (inB_vp i16) rfl dJ1_indexOfChar_4cfef_16 ?_
    refine lv_iload hx hb dJ1_indexOfChar_4cfef_17 (lv_at hl 2 rfl) ?_
    refine lv_icmp_ne (tgt := 25) hx hb dJ1_indexOfChar_4cfef_19 (by decide) (fun c19 => ?_) (fun c19 => ?_)
    · have hf := if_f c19 hf
      refine lv_iinc (v := (x5 + (1 : Int32))) (lv' := [(5, .int (x5 + (1 : Int32))), (0, .ref (ee.2.1 1)), (3, .int x3), (4, .int x4)]) hx hb dJ1_indexOfChar_4cfef_25 hl (k := 3) rfl (congrArg (fun z => x5 + z) (by decide)) (by decide) rfl (fun ls hl => ?_)
      refine lv_goto (tgt := 7) hx hb dJ1_indexOfChar_4cfef_28 (by decide) ?_
      exact ih _ _ _ _ hf _ _ _ Z (lv_sub hl [1, 2, 3, 0] rfl)
    have hf := if_t c19 hf
    refine lv_iload hx hb dJ1_indexOfChar_4cfef_22 (lv_at hl 3 rfl) ?_
    have hf := Option.some.inj hf
    subst hf
    exact ret_i F hr hk Z dJ1_indexOfChar_4cfef_24
set_option maxRecDepth 100000 in
set_option maxHeartbeats 4000000 in
theorem c_J1_indexOfChar_4cfef_v1 {l : Launch} {D : va_G} {ad : Nat → Nat} {cy : Nat → ClassId} {ee : EE} {n : Nat} {st : StT} {x1 : Int32} {x2 : Int32} {x3 : Int32} {res : (Int32 × StT)} (hf : f_J1_indexOfChar_4cfef_v1 n st x1 x2 x3 = some res) : CT l yJ1_indexOfChar_4cfef cJ1_indexOfChar_4cfef 6 (some .int) 0 0 D cy ee (wC ad cy st) (wC ad cy res.2) [.ref (ee.2.1 1), .int x1, .int x2, .int x3] (some (.int res.1)) := by
  refine CT.of (by decide +kernel) (Nat.le_of_ble_eq_true rfl) ?_
  intro p e s m args below meth c A F hr hk K E hA Z ls hl
  have hl : lv_has ls 6 [(0, .ref (ee.2.1 1)), (1, .int x1), (2, .int x2), (3, .int x3)] := hl
  have hx := F.1
  have hb := F.2.1
  unfold f_J1_indexOfChar_4cfef_v1 at hf
  refine lv_iload_n hx hb dJ1_indexOfChar_4cfef_0 rfl (lv_at hl 1 rfl) ?_
  refine lv_i2b hx hb dJ1_indexOfChar_4cfef_1 rfl ?_
  refine lv_istore (lv' := [(4, .int x1.toInt8.toInt32), (0, .ref (ee.2.1 1)), (1, .int x1), (2, .int x2), (3, .int x3)]) hx hb dJ1_indexOfChar_4cfef_2 hl (by decide) rfl (fun ls hl => ?_)
  refine lv_iload_n hx hb dJ1_indexOfChar_4cfef_4 rfl (lv_at hl 3 rfl) ?_
  refine lv_istore (lv' := [(5, .int x2), (4, .int x1.toInt8.toInt32), (0, .ref (ee.2.1 1)), (1, .int x1), (2, .int x2), (3, .int x3)]) hx hb dJ1_indexOfChar_4cfef_5 hl (by decide) rfl (fun ls hl => ?_)
  exact b_J1_indexOfChar_4cfef_v1_7 F hr hk K E hA _ _ _ _ _ hf _ _ _ Z (lv_sub hl [2, 5, 1, 0] rfl)
def f_J1_indexOf_4cfef_v1 (n : Nat) (st : StT) (x1 : Int32) (x2 : Int32) (x3 : Int32) : Option (Int32 × StT) := (f_J1_canEncode_9a6ad n st x1).bind fun q1 => (if q1.1 = 0 then (some ((-1 : Int32), q1.2)) else (if (if x2 < (0 : Int32) then (0 : Int32) else x2) < (if (11 : Int32) < x3 then (11 : Int32) else x3) then ((f_J1_indexOfChar_4cfef_v1 n q1.2 x1 (if x2 < (0 : Int32) then (0 : Int32) else x2) (if (11 : Int32) < x3 then (11 : Int32) else x3)).bind fun q33 => (some (q33.1, q33.2))) else (some ((-1 : Int32), q1.2))))
section
variable {p : Program} {l : Launch} {e : Env} {R : Room} {s : State} {m : MethodId} {args : Array Value} {below : List Frame} {meth : Method} {c : Code} {H : Heap} {locs : List Loc} {Q : State → Prop}
variable {cc : ByteArray} {nL pc : Nat} {ls : Array Slot} {rest : List Value} {D : va_G} {A : Nat → Prop} {cw : Cond} {ad : Nat → Nat} {cy : Nat → ClassId} {ee : EE} {st : StT} {own : String}
theorem krJ1_95_J1_indexOfChar_4cfef_v1 {n : Nat} {a1 : Int32} {a2 : Int32} {a3 : Int32} {q : (Int32 × StT)} (F : CallFix p m c cc nL s args (cw :: Gw) RJ1) (K : va_K D vwCl (tyL cy) s) (E : EV ee A s s.heap) (hA : ∀ q, s.heap.size ≤ q → A q) (Z : ZG D (wC ad cy st) A s H locs) (hf : f_J1_indexOfChar_4cfef_v1 n st a1 a2 a3 = some q) (hR : 1 ≤ R.frames ∧ 25 ≤ R.locals) (hl : ls.size = nL) (hst : (rest.map fun v => v.category).sum ≤ 8) (hd : decode cc pc = .ok (.invokestatic 95, 3)) (kk : ∀ (H1 : Heap) (locs1 : List Loc), ZG D (wC ad cy q.2) A s H1 locs1 → W p l e R s m args below meth c H1 locs1 0 0 Q (F0 m (pc + 3) ls (.int q.1 :: rest))) : W p l e R s m args below meth c H locs 0 0 Q (F0 m pc ls (.int a3 :: .int a2 :: .int a1 :: .ref (ee.2.1 1) :: rest)) :=
  call_S (n := 4) (As := [.ref (ee.2.1 1), .int a1, .int a2, .int a3]) (rv := some (.int q.1)) F K E hA Z (c_J1_indexOfChar_4cfef_v1 (l := l) (D := D) (ad := ad) (cy := cy) (ee := ee) hf) ⟨wd445, wd444, wd446, wd447⟩ (by decide +kernel) hR rfl hl hst hd kk
end
set_option maxRecDepth 100000 in
set_option maxHeartbeats 4000000 in
theorem c_J1_indexOf_4cfef_v1 {l : Launch} {D : va_G} {ad : Nat → Nat} {cy : Nat → ClassId} {ee : EE} {n : Nat} {st : StT} {x1 : Int32} {x2 : Int32} {x3 : Int32} {res : (Int32 × StT)} (hf : f_J1_indexOf_4cfef_v1 n st x1 x2 x3 = some res) : CT l yJ1_indexOf_4cfef cJ1_indexOf_4cfef 4 (some .int) 1 25 D cy ee (wC ad cy st) (wC ad cy res.2) [.ref (ee.2.1 1), .int x1, .int x2, .int x3] (some (.int res.1)) := by
  refine CT.of (by decide +kernel) (Nat.le_of_ble_eq_true rfl) ?_
  intro p e s m args below meth c A F hr hk K E hA Z ls hl
  have hl : lv_has ls 4 [(0, .ref (ee.2.1 1)), (1, .int x1), (2, .int x2), (3, .int x3)] := hl
  have hx := F.1
  have hb := F.2.1
  unfold f_J1_indexOf_4cfef_v1 at hf
  refine lv_iload_n hx hb dJ1_indexOf_4cfef_0 rfl (lv_at hl 1 rfl) ?_
  obtain ⟨q1, h1, hf⟩ := bind_some hf
  refine krJ1_88_J1_canEncode_9a6ad F K E hA Z h1 ⟨Nat.le_of_ble_eq_true rfl, Nat.le_of_ble_eq_true rfl⟩ hl.1 (Nat.le_of_ble_eq_true rfl) dJ1_indexOf_4cfef_1 (fun H locs Z => ?_)
  refine lv_if_ne (tgt := 9) hx hb dJ1_indexOf_4cfef_4 (by decide) (fun c4 => ?_) (fun c4 => ?_)
  · have hf := if_f c4 hf
    refine lv_iload_n hx hb dJ1_indexOf_4cfef_9 rfl (lv_at hl 2 rfl) ?_
    refine lv_iconst (v := 0) hx hb dJ1_indexOf_4cfef_10 (by decide) ?_
    refine mth_max F (F.2.2.2.2 _ (List.mem_cons_of_mem _ wd449)) hl.1 (Nat.le_of_ble_eq_true rfl) (Nat.le_of_ble_eq_true rfl) dJ1_indexOf_4cfef_11 ?_
    refine lv_istore_n (lv' := [(2, .int (if x2 < (0 : Int32) then (0 : Int32) else x2)), (0, .ref (ee.2.1 1)), (1, .int x1), (3, .int x3)]) hx hb dJ1_indexOf_4cfef_14 rfl hl (by decide) rfl (fun ls hl => ?_)
    refine lv_iload_n hx hb dJ1_indexOf_4cfef_15 rfl (lv_at hl 3 rfl) ?_
    refine lv_aload_n hx hb dJ1_indexOf_4cfef_16 rfl (lv_at hl 1 rfl) ?_
    refine va_tlen hx hb (E.2.1.1 1 (by decide)).2.2.2 Z.2.2 (v := 11) (by decide) dJ1_indexOf_4cfef_17 ?_
    refine mth_min F (F.2.2.2.2 _ (List.mem_cons_of_mem _ wd448)) hl.1 (Nat.le_of_ble_eq_true rfl) (Nat.le_of_ble_eq_true rfl) dJ1_indexOf_4cfef_18 ?_
    refine lv_istore_n (lv' := [(3, .int (if (11 : Int32) < x3 then (11 : Int32) else x3)), (2, .int (if x2 < (0 : Int32) then (0 : Int32) else x2)), (0, .ref (ee.2.1 1)), (1, .int x1)]) hx hb dJ1_indexOf_4cfef_21 rfl hl (by decide) rfl (fun ls hl => ?_)
    refine lv_iload_n hx hb dJ1_indexOf_4cfef_22 rfl (lv_at hl 1 rfl) ?_
    refine lv_iload_n hx hb dJ1_indexOf_4cfef_23 rfl (lv_at hl 0 rfl) ?_
    refine lv_icmp_lt (tgt := 29) hx hb dJ1_indexOf_4cfef_24 (by decide) (fun c24 => ?_) (fun c24 => ?_)
    · have hf := if_t c24 hf
      refine lv_aload_n hx hb dJ1_indexOf_4cfef_29 rfl (lv_at hl 2 rfl) ?_
      refine lv_iload_n hx hb dJ1_indexOf_4cfef_30 rfl (lv_at hl 3 rfl) ?_
      refine lv_iload_n hx hb dJ1_indexOf_4cfef_31 rfl (lv_at hl 1 rfl) ?_
      refine lv_iload_n hx hb dJ1_indexOf_4cfef_32 rfl (lv_at hl 0 rfl) ?_
      obtain ⟨q33, h33, hf⟩ := bind_some hf
      refine krJ1_95_J1_indexOfChar_4cfef_v1 F K E hA Z h33 ⟨Nat.le_of_ble_eq_true rfl, Nat.le_of_ble_eq_true rfl⟩ hl.1 (Nat.le_of_ble_eq_true rfl) dJ1_indexOf_4cfef_33 (fun H locs Z => ?_)
      have hf := Option.some.inj hf
      subst hf
      exact ret_i F hr hk Z dJ1_indexOf_4cfef_36
    have hf := if_f c24 hf
    refine lv_iconst (v := -1) hx hb dJ1_indexOf_4cfef_27 (by decide) ?_
    have hf := Option.some.inj hf
    subst hf
    exact ret_i F hr hk Z dJ1_indexOf_4cfef_28
  have hf := if_t c4 hf
  refine lv_iconst (v := -1) hx hb dJ1_indexOf_4cfef_7 (by decide) ?_
  have hf := Option.some.inj hf
  subst hf
  exact ret_i F hr hk Z dJ1_indexOf_4cfef_8
def f_J0_indexOf_7cf53_s1 (n : Nat) (st : StT) (x1 : Int32) (x2 : Int32) : Option (Int32 × StT) := (f_J0_isLatin1_aae02_s1 n st).bind fun q1 => (if q1.1 = 0 then ((f_J0_length_8abf5_s1 n q1.2).bind fun q30 => (none)) else ((f_J0_length_8abf5_s1 n q1.2).bind fun q14 => ((f_J1_indexOf_4cfef_v1 n q14.2 x1 x2 q14.1).bind fun q17 => (some (q17.1, q17.2)))))
section
variable {p : Program} {l : Launch} {e : Env} {R : Room} {s : State} {m : MethodId} {args : Array Value} {below : List Frame} {meth : Method} {c : Code} {H : Heap} {locs : List Loc} {Q : State → Prop}
variable {cc : ByteArray} {nL pc : Nat} {ls : Array Slot} {rest : List Value} {D : va_G} {A : Nat → Prop} {cw : Cond} {ad : Nat → Nat} {cy : Nat → ClassId} {ee : EE} {st : StT} {own : String}
theorem krJ0_505_J0_length_8abf5_s1 {n : Nat}  {q : (Int32 × StT)} (F : CallFix p m c cc nL s args (cw :: Gw) RJ0) (K : va_K D vwCl (tyL cy) s) (E : EV ee A s s.heap) (hA : ∀ q, s.heap.size ≤ q → A q) (Z : ZG D (wC ad cy st) A s H locs) (hf : f_J0_length_8abf5_s1 n st = some q) (hR : 2 ≤ R.frames ∧ 40 ≤ R.locals) (hl : ls.size = nL) (hst : (rest.map fun v => v.category).sum ≤ 8) (hd : decode cc pc = .ok (.invokevirtual 505, 3)) (kk : ∀ (H1 : Heap) (locs1 : List Loc), ZG D (wC ad cy q.2) A s H1 locs1 → W p l e R s m args below meth c H1 locs1 0 0 Q (F0 m (pc + 3) ls (.int q.1 :: rest))) : W p l e R s m args below meth c H locs 0 0 Q (F0 m pc ls (.ref (ee.1 1) :: rest)) :=
  call_K (n := 0) (As := []) (rv := some (.int q.1)) 1 F K E hA Z (c_J0_length_8abf5_s1 (l := l) (D := D) (ad := ad) (cy := cy) (ee := ee) hf) ⟨wd454, wd453, wd455, wd456, wd443⟩ (by decide +kernel) (by decide) hR rfl hl hst hd kk
theorem krJ0_637_J1_indexOf_4cfef_v1 {n : Nat} {a1 : Int32} {a2 : Int32} {a3 : Int32} {q : (Int32 × StT)} (F : CallFix p m c cc nL s args (cw :: Gw) RJ0) (K : va_K D vwCl (tyL cy) s) (E : EV ee A s s.heap) (hA : ∀ q, s.heap.size ≤ q → A q) (Z : ZG D (wC ad cy st) A s H locs) (hf : f_J1_indexOf_4cfef_v1 n st a1 a2 a3 = some q) (hR : 2 ≤ R.frames ∧ 48 ≤ R.locals) (hl : ls.size = nL) (hst : (rest.map fun v => v.category).sum ≤ 8) (hd : decode cc pc = .ok (.invokestatic 637, 3)) (kk : ∀ (H1 : Heap) (locs1 : List Loc), ZG D (wC ad cy q.2) A s H1 locs1 → W p l e R s m args below meth c H1 locs1 0 0 Q (F0 m (pc + 3) ls (.int q.1 :: rest))) : W p l e R s m args below meth c H locs 0 0 Q (F0 m pc ls (.int a3 :: .int a2 :: .int a1 :: .ref (ee.2.1 1) :: rest)) :=
  call_S (n := 4) (As := [.ref (ee.2.1 1), .int a1, .int a2, .int a3]) (rv := some (.int q.1)) F K E hA Z (c_J1_indexOf_4cfef_v1 (l := l) (D := D) (ad := ad) (cy := cy) (ee := ee) hf) ⟨wd458, wd457, wd459, wd447⟩ (by decide +kernel) hR rfl hl hst hd kk
theorem krJ0_492_J0_isLatin1_aae02_s1 {n : Nat}  {q : (Int32 × StT)} (F : CallFix p m c cc nL s args (cw :: Gw) RJ0) (K : va_K D vwCl (tyL cy) s) (E : EV ee A s s.heap) (hA : ∀ q, s.heap.size ≤ q → A q) (Z : ZG D (wC ad cy st) A s H locs) (hf : f_J0_isLatin1_aae02_s1 n st = some q) (hR : 1 ≤ R.frames ∧ 20 ≤ R.locals) (hl : ls.size = nL) (hst : (rest.map fun v => v.category).sum ≤ 8) (hd : decode cc pc = .ok (.invokevirtual 492, 3)) (kk : ∀ (H1 : Heap) (locs1 : List Loc), ZG D (wC ad cy q.2) A s H1 locs1 → W p l e R s m args below meth c H1 locs1 0 0 Q (F0 m (pc + 3) ls (.int q.1 :: rest))) : W p l e R s m args below meth c H locs 0 0 Q (F0 m pc ls (.ref (ee.1 1) :: rest)) :=
  call_K (n := 0) (As := []) (rv := some (.int q.1)) 1 F K E hA Z (c_J0_isLatin1_aae02_s1 (l := l) (D := D) (ad := ad) (cy := cy) (ee := ee) hf) ⟨wd461, wd460, wd462, wd463, wd443⟩ (by decide +kernel) (by decide) hR rfl hl hst hd kk
end
set_option maxRecDepth 100000 in
set_option maxHeartbeats 4000000 in
theorem c_J0_indexOf_7cf53_s1 {l : Launch} {D : va_G} {ad : Nat → Nat} {cy : Nat → ClassId} {ee : EE} {n : Nat} {st : StT} {x1 : Int32} {x2 : Int32} {res : (Int32 × StT)} (hf : f_J0_indexOf_7cf53_s1 n st x1 x2 = some res) : CT l yJ0_indexOf_7cf53 cJ0_indexOf_7cf53 3 (some .int) 2 48 D cy ee (wC ad cy st) (wC ad cy res.2) [.ref (ee.1 1), .int x1, .int x2] (some (.int res.1)) := by
  refine CT.of (by decide +kernel) (Nat.le_of_ble_eq_true rfl) ?_
  intro p e s m args below meth c A F hr hk K E hA Z ls hl
  have hl : lv_has ls 3 [(0, .ref (ee.1 1)), (1, .int x1), (2, .int x2)] := hl
  have hx := F.1
  have hb := F.2.1
  unfold f_J0_indexOf_7cf53_s1 at hf
  refine lv_aload_n hx hb dJ0_indexOf_7cf53_0 rfl (lv_at hl 0 rfl) ?_
  obtain ⟨q1, h1, hf⟩ := bind_some hf
  refine krJ0_492_J0_isLatin1_aae02_s1 F K E hA Z h1 ⟨Nat.le_of_ble_eq_true rfl, Nat.le_of_ble_eq_true rfl⟩ hl.1 (Nat.le_of_ble_eq_true rfl) dJ0_indexOf_7cf53_1 (fun H locs Z => ?_)
  refine lv_if_eq (tgt := 23) hx hb dJ0_indexOf_7cf53_4 (by decide) (fun c4 => ?_) (fun c4 => ?_)
  · have hf := if_t c4 hf
    refine lv_aload_n hx hb dJ0_indexOf_7cf53_23 rfl (lv_at hl 0 rfl) ?_
    refine vk_getf hx hb (E.2.1.1 1 (by decide)).2.2.1 Z.2.2 F.2.2.2.1 (F.2.2.2.2 _ (List.mem_cons_of_mem _ wd436)) (fun _ h => h) dJ0_indexOf_7cf53_24 ?_
    refine lv_iload_n hx hb dJ0_indexOf_7cf53_27 rfl (lv_at hl 1 rfl) ?_
    refine lv_iload_n hx hb dJ0_indexOf_7cf53_28 rfl (lv_at hl 2 rfl) ?_
    refine lv_aload_n hx hb dJ0_indexOf_7cf53_29 rfl (lv_at hl 0 rfl) ?_
    obtain ⟨q30, h30, hf⟩ := bind_some hf
    refine krJ0_505_J0_length_8abf5_s1 F K E hA Z h30 ⟨Nat.le_of_ble_eq_true rfl, Nat.le_of_ble_eq_true rfl⟩ hl.1 (Nat.le_of_ble_eq_true rfl) dJ0_indexOf_7cf53_30 (fun H locs Z => ?_)
    cases hf
  have hf := if_f c4 hf
  refine lv_aload_n hx hb dJ0_indexOf_7cf53_7 rfl (lv_at hl 0 rfl) ?_
  refine vk_getf hx hb (E.2.1.1 1 (by decide)).2.2.1 Z.2.2 F.2.2.2.1 (F.2.2.2.2 _ (List.mem_cons_of_mem _ wd436)) (fun _ h => h) dJ0_indexOf_7cf53_8 ?_
  refine lv_iload_n hx hb dJ0_indexOf_7cf53_11 rfl (lv_at hl 1 rfl) ?_
  refine lv_iload_n hx hb dJ0_indexOf_7cf53_12 rfl (lv_at hl 2 rfl) ?_
  refine lv_aload_n hx hb dJ0_indexOf_7cf53_13 rfl (lv_at hl 0 rfl) ?_
  obtain ⟨q14, h14, hf⟩ := bind_some hf
  refine krJ0_505_J0_length_8abf5_s1 F K E hA Z h14 ⟨Nat.le_of_ble_eq_true rfl, Nat.le_of_ble_eq_true rfl⟩ hl.1 (Nat.le_of_ble_eq_true rfl) dJ0_indexOf_7cf53_14 (fun H locs Z => ?_)
  obtain ⟨q17, h17, hf⟩ := bind_some hf
  refine krJ0_637_J1_indexOf_4cfef_v1 F K E hA Z h17 ⟨Nat.le_of_ble_eq_true rfl, Nat.le_of_ble_eq_true rfl⟩ hl.1 (Nat.le_of_ble_eq_true rfl) dJ0_indexOf_7cf53_17 (fun H locs Z => ?_)
  refine lv_goto (tgt := 36) hx hb dJ0_indexOf_7cf53_20 (by decide) ?_
  have hf := Option.some.inj hf
  subst hf
  exact ret_i F hr hk Z dJ0_indexOf_7cf53_36
def f_J0_indexOf_0f7a4_s1 (n : Nat) (st : StT) (x1 : Int32) : Option (Int32 × StT) := (f_J0_indexOf_7cf53_s1 n st x1 (0 : Int32)).bind fun q3 => (some (q3.1, q3.2))
section
variable {p : Program} {l : Launch} {e : Env} {R : Room} {s : State} {m : MethodId} {args : Array Value} {below : List Frame} {meth : Method} {c : Code} {H : Heap} {locs : List Loc} {Q : State → Prop}
variable {cc : ByteArray} {nL pc : Nat} {ls : Array Slot} {rest : List Value} {D : va_G} {A : Nat → Prop} {cw : Cond} {ad : Nat → Nat} {cy : Nat → ClassId} {ee : EE} {st : StT} {own : String}
theorem krJ0_633_J0_indexOf_7cf53_s1 {n : Nat} {a0 : Int32} {a1 : Int32} {q : (Int32 × StT)} (F : CallFix p m c cc nL s args (cw :: Gw) RJ0) (K : va_K D vwCl (tyL cy) s) (E : EV ee A s s.heap) (hA : ∀ q, s.heap.size ≤ q → A q) (Z : ZG D (wC ad cy st) A s H locs) (hf : f_J0_indexOf_7cf53_s1 n st a0 a1 = some q) (hR : 3 ≤ R.frames ∧ 70 ≤ R.locals) (hl : ls.size = nL) (hst : (rest.map fun v => v.category).sum ≤ 8) (hd : decode cc pc = .ok (.invokevirtual 633, 3)) (kk : ∀ (H1 : Heap) (locs1 : List Loc), ZG D (wC ad cy q.2) A s H1 locs1 → W p l e R s m args below meth c H1 locs1 0 0 Q (F0 m (pc + 3) ls (.int q.1 :: rest))) : W p l e R s m args below meth c H locs 0 0 Q (F0 m pc ls (.int a1 :: .int a0 :: .ref (ee.1 1) :: rest)) :=
  call_K (n := 2) (As := [.int a0, .int a1]) (rv := some (.int q.1)) 1 F K E hA Z (c_J0_indexOf_7cf53_s1 (l := l) (D := D) (ad := ad) (cy := cy) (ee := ee) hf) ⟨wd465, wd464, wd466, wd467, wd443⟩ (by decide +kernel) (by decide) hR rfl hl hst hd kk
end
set_option maxRecDepth 100000 in
set_option maxHeartbeats 4000000 in
theorem c_J0_indexOf_0f7a4_s1 {l : Launch} {D : va_G} {ad : Nat → Nat} {cy : Nat → ClassId} {ee : EE} {n : Nat} {st : StT} {x1 : Int32} {res : (Int32 × StT)} (hf : f_J0_indexOf_0f7a4_s1 n st x1 = some res) : CT l yJ0_indexOf_0f7a4 cJ0_indexOf_0f7a4 2 (some .int) 3 70 D cy ee (wC ad cy st) (wC ad cy res.2) [.ref (ee.1 1), .int x1] (some (.int res.1)) := by
  refine CT.of (by decide +kernel) (Nat.le_of_ble_eq_true rfl) ?_
  intro p e s m args below meth c A F hr hk K E hA Z ls hl
  have hl : lv_has ls 2 [(0, .ref (ee.1 1)), (1, .int x1)] := hl
  have hx := F.1
  have hb := F.2.1
  unfold f_J0_indexOf_0f7a4_s1 at hf
  refine lv_aload_n hx hb dJ0_indexOf_0f7a4_0 rfl (lv_at hl 0 rfl) ?_
  refine lv_iload_n hx hb dJ0_indexOf_0f7a4_1 rfl (lv_at hl 1 rfl) ?_
  refine lv_iconst (v := 0) hx hb dJ0_indexOf_0f7a4_2 (by decide) ?_
  obtain ⟨q3, h3, hf⟩ := bind_some hf
  refine krJ0_633_J0_indexOf_7cf53_s1 F K E hA Z h3 ⟨Nat.le_of_ble_eq_true rfl, Nat.le_of_ble_eq_true rfl⟩ hl.1 (Nat.le_of_ble_eq_true rfl) dJ0_indexOf_0f7a4_3 (fun H locs Z => ?_)
  have hf := Option.some.inj hf
  subst hf
  exact ret_i F hr hk Z dJ0_indexOf_0f7a4_6
def f_X8_scanSign_90 (n : Nat) (st : StT) (x1 : Int32) : Option StT := (f_J0_indexOf_0f7a4_s0 n st (x1.toUInt32 % 65536).toInt32).bind fun q94 => (if 0 ≤ q94.1 then ((f_X8_token n q94.2 x1 (1 : Int32)).bind fun q120 => (some q120)) else (if (q94.2.1 1) = 0 then ((f_X8_token n q94.2 (-1 : Int32) (0 : Int32)).bind fun q129 => (some q129)) else ((f_J0_indexOf_0f7a4_s1 n q94.2 (x1.toUInt32 % 65536).toInt32).bind fun q111 => (if q111.1 < 0 then ((f_X8_token n q111.2 (-1 : Int32) (0 : Int32)).bind fun q129 => (some q129)) else ((f_X8_token n q111.2 x1 (1 : Int32)).bind fun q120 => (some q120))))))
def f_X8_scanSign_44 (n : Nat) (st : StT) (x1 : Int32) : Option StT := if x1 = (60 : Int32) then ((f_X8_byteAt n st ((st.1 4) + (1 : Int32))).bind fun q57 => (if q57.1 = (45 : Int32) then ((f_X8_byteAt n q57.2 ((q57.2.1 4) + (2 : Int32))).bind fun q72 => (if q72.1 = (62 : Int32) then ((f_X8_token n q72.2 (61 : Int32) (3 : Int32)).bind fun q84 => (some q84)) else (f_X8_scanSign_90 n q72.2 x1))) else (f_X8_scanSign_90 n q57.2 x1))) else (f_X8_scanSign_90 n st x1)
def f_X8_scanSign (n : Nat) (st : StT) (x1 : Int32) : Option StT := if 0 ≤ x1 then (if x1 = (45 : Int32) then ((f_X8_byteAt n st ((st.1 4) + (1 : Int32))).bind fun q26 => (if q26.1 = (62 : Int32) then ((f_X8_token n q26.2 (62 : Int32) (2 : Int32)).bind fun q38 => (some q38)) else (f_X8_scanSign_44 n q26.2 x1))) else (f_X8_scanSign_44 n st x1)) else ((f_X8_token n st (0 : Int32) (0 : Int32)).bind fun q7 => (some q7))
theorem wd468 : Cond.methodLink RX8 60 yX8_token ∈ Gw := gT3 (List.mem_of_getElem? (i := 0) rfl) rfl
theorem wd469 : Cond.code yX8_token prog_10_method_13_code 3 none ∈ Gw := gT3 (List.mem_of_getElem? (i := 3) rfl) rfl
theorem wd470 : Cond.instanceMethod yX8_token ∈ Gw := gT3 (List.mem_of_getElem? (i := 2) rfl) rfl
theorem wd471 : Cond.selects RX8 yX8_token yX8_token ∈ Gw := gP1 (q := (yX8_token, 8)) (List.mem_of_getElem? (i := 10) rfl)
theorem wd472 : Cond.initialized RX8 ∈ Gw := gT1 (List.mem_of_getElem? (i := 2) rfl) rfl
theorem wd473 : Cond.methodLink RX8 32 yX8_byteAt ∈ Gw := gT2 (List.mem_of_getElem? (i := 223) rfl) rfl
theorem wd474 : Cond.code yX8_byteAt prog_10_method_2_code 2 (some .int) ∈ Gw := gT2 (List.mem_of_getElem? (i := 226) rfl) rfl
theorem wd475 : Cond.instanceMethod yX8_byteAt ∈ Gw := gT2 (List.mem_of_getElem? (i := 224) rfl) rfl
theorem wd476 : Cond.selects RX8 yX8_byteAt yX8_byteAt ∈ Gw := gT2 (List.mem_of_getElem? (i := 225) rfl) rfl
theorem wd477 : Cond.methodLink RX8 66 yJ0_indexOf_0f7a4 ∈ Gw := gT3 (List.mem_of_getElem? (i := 11) rfl) rfl
theorem wd478 : Cond.code yJ0_indexOf_0f7a4 prog_19_method_79_code 2 (some .int) ∈ Gw := gT3 (List.mem_of_getElem? (i := 14) rfl) rfl
theorem wd479 : Cond.instanceMethod yJ0_indexOf_0f7a4 ∈ Gw := gT3 (List.mem_of_getElem? (i := 12) rfl) rfl
theorem wd480 : Cond.selects RJ0 yJ0_indexOf_0f7a4 yJ0_indexOf_0f7a4 ∈ Gw := gT3 (List.mem_of_getElem? (i := 13) rfl) rfl
section
variable {p : Program} {l : Launch} {e : Env} {R : Room} {s : State} {m : MethodId} {args : Array Value} {below : List Frame} {meth : Method} {c : Code} {H : Heap} {locs : List Loc} {Q : State → Prop}
variable {cc : ByteArray} {nL pc : Nat} {ls : Array Slot} {rest : List Value} {D : va_G} {A : Nat → Prop} {cw : Cond} {ad : Nat → Nat} {cy : Nat → ClassId} {ee : EE} {st : StT} {own : String}
theorem krX8_60_X8_token {n : Nat} {a0 : Int32} {a1 : Int32} {q : StT} (F : CallFix p m c cc nL s args (cw :: Gw) RX8) (K : va_K D vwCl (tyL cy) s) (E : EV ee A s s.heap) (hA : ∀ q, s.heap.size ≤ q → A q) (Z : ZG D (wC ad cy st) A s H locs) (hf : f_X8_token n st a0 a1 = some q) (hR : 1 ≤ R.frames ∧ 22 ≤ R.locals) (hl : ls.size = nL) (hst : (rest.map fun v => v.category).sum ≤ 8) (hd : decode cc pc = .ok (.invokevirtual 60, 3)) (kk : ∀ (H1 : Heap) (locs1 : List Loc), ZG D (wC ad cy q) A s H1 locs1 → W p l e R s m args below meth c H1 locs1 0 0 Q (F0 m (pc + 3) ls (rest))) : W p l e R s m args below meth c H locs 0 0 Q (F0 m pc ls (.int a1 :: .int a0 :: .ref (ad 2) :: rest)) :=
  call_V (q := (RX8, TX8, 8)) (n := 2) (As := [.int a0, .int a1]) (rv := none) 2 8 F K E hA Z (c_X8_token (l := l) (D := D) (ad := ad) (cy := cy) (ee := ee) hf) ⟨wd469, wd468, wd470, wd471, wd472⟩ (by decide +kernel) rfl rfl hR rfl hl hst hd kk
theorem krX8_32_X8_byteAt {n : Nat} {a0 : Int32} {q : (Int32 × StT)} (F : CallFix p m c cc nL s args (cw :: Gw) RX8) (K : va_K D vwCl (tyL cy) s) (E : EV ee A s s.heap) (hA : ∀ q, s.heap.size ≤ q → A q) (Z : ZG D (wC ad cy st) A s H locs) (hf : f_X8_byteAt n st a0 = some q) (hR : 1 ≤ R.frames ∧ 21 ≤ R.locals) (hl : ls.size = nL) (hst : (rest.map fun v => v.category).sum ≤ 8) (hd : decode cc pc = .ok (.invokevirtual 32, 3)) (kk : ∀ (H1 : Heap) (locs1 : List Loc), ZG D (wC ad cy q.2) A s H1 locs1 → W p l e R s m args below meth c H1 locs1 0 0 Q (F0 m (pc + 3) ls (.int q.1 :: rest))) : W p l e R s m args below meth c H locs 0 0 Q (F0 m pc ls (.int a0 :: .ref (ad 2) :: rest)) :=
  call_V (q := (RX8, TX8, 8)) (n := 1) (As := [.int a0]) (rv := some (.int q.1)) 2 8 F K E hA Z (c_X8_byteAt (l := l) (D := D) (ad := ad) (cy := cy) (ee := ee) hf) ⟨wd474, wd473, wd475, wd476, wd472⟩ (by decide +kernel) rfl rfl hR rfl hl hst hd kk
theorem krX8_66_J0_indexOf_0f7a4_s1 {n : Nat} {a0 : Int32} {q : (Int32 × StT)} (F : CallFix p m c cc nL s args (cw :: Gw) RX8) (K : va_K D vwCl (tyL cy) s) (E : EV ee A s s.heap) (hA : ∀ q, s.heap.size ≤ q → A q) (Z : ZG D (wC ad cy st) A s H locs) (hf : f_J0_indexOf_0f7a4_s1 n st a0 = some q) (hR : 4 ≤ R.frames ∧ 91 ≤ R.locals) (hl : ls.size = nL) (hst : (rest.map fun v => v.category).sum ≤ 8) (hd : decode cc pc = .ok (.invokevirtual 66, 3)) (kk : ∀ (H1 : Heap) (locs1 : List Loc), ZG D (wC ad cy q.2) A s H1 locs1 → W p l e R s m args below meth c H1 locs1 0 0 Q (F0 m (pc + 3) ls (.int q.1 :: rest))) : W p l e R s m args below meth c H locs 0 0 Q (F0 m pc ls (.int a0 :: .ref (ee.1 1) :: rest)) :=
  call_K (n := 1) (As := [.int a0]) (rv := some (.int q.1)) 1 F K E hA Z (c_J0_indexOf_0f7a4_s1 (l := l) (D := D) (ad := ad) (cy := cy) (ee := ee) hf) ⟨wd478, wd477, wd479, wd480, wd443⟩ (by decide +kernel) (by decide) hR rfl hl hst hd kk
theorem krX8_66_J0_indexOf_0f7a4_s0 {n : Nat} {a0 : Int32} {q : (Int32 × StT)} (F : CallFix p m c cc nL s args (cw :: Gw) RX8) (K : va_K D vwCl (tyL cy) s) (E : EV ee A s s.heap) (hA : ∀ q, s.heap.size ≤ q → A q) (Z : ZG D (wC ad cy st) A s H locs) (hf : f_J0_indexOf_0f7a4_s0 n st a0 = some q) (hR : 4 ≤ R.frames ∧ 91 ≤ R.locals) (hl : ls.size = nL) (hst : (rest.map fun v => v.category).sum ≤ 8) (hd : decode cc pc = .ok (.invokevirtual 66, 3)) (kk : ∀ (H1 : Heap) (locs1 : List Loc), ZG D (wC ad cy q.2) A s H1 locs1 → W p l e R s m args below meth c H1 locs1 0 0 Q (F0 m (pc + 3) ls (.int q.1 :: rest))) : W p l e R s m args below meth c H locs 0 0 Q (F0 m pc ls (.int a0 :: .ref (ee.1 0) :: rest)) :=
  call_K (n := 1) (As := [.int a0]) (rv := some (.int q.1)) 0 F K E hA Z (c_J0_indexOf_0f7a4_s0 (l := l) (D := D) (ad := ad) (cy := cy) (ee := ee) hf) ⟨wd478, wd477, wd479, wd480, wd443⟩ (by decide +kernel) (by decide) hR rfl hl hst hd kk
end
set_option maxRecDepth 100000 in
set_option maxHeartbeats 4000000 in
theorem b_X8_scanSign_90 {p : Program} {l : Launch} {e : Env} {s : State} {m : MethodId} {args : Array Value} {below : List Frame} {meth : Method} {c : Code} {D : va_G} {A : Nat → Prop} {ad : Nat → Nat} {cy : Nat → ClassId} {ee : EE} {n : Nat} {res : StT} (F : CallFix p m c cX8_scanSign 2 s args (Cond.code yX8_scanSign cX8_scanSign 2 none :: Gw) yX8_scanSign.cls) (hr : meth.sig.returnType = none) (hk : meth.locks = false) (K : va_K D vwCl (tyL cy) s) (E : EV ee A s s.heap) (hA : ∀ q, s.heap.size ≤ q → A q) : ∀ (st : StT) (x1 : Int32), f_X8_scanSign_90 n st x1 = some res → ∀ (H : Heap) (locs : List Loc) (ls : Array Slot), ZG D (wC ad cy st) A s H locs → lv_has ls 2 [(0, .ref (ad 2)), (1, .int x1)] → W p l e { frames := 4, cells := 0, slots := 0, locals := 91 } s m args below meth c H locs 0 0 (MQ below (QC D (none) (wC ad cy res) A) args s 0 0 A) (F0 m 90 ls []) := by
  have hx := F.1
  have hb := F.2.1
  intro st x1 hf H locs ls Z hl
  unfold f_X8_scanSign_90 at hf
  refine va_ldcS hx hb F.2.2.2.1 E.2.2.1.1 dX8_scanSign_90 ?_
  refine lv_iload_n hx hb dX8_scanSign_92 rfl (lv_at hl 1 rfl) ?_
  refine lv_i2c hx hb dX8_scanSign_93 rfl ?_
  obtain ⟨q94, h94, hf⟩ := bind_some hf
  refine krX8_66_J0_indexOf_0f7a4_s0 F K E hA Z h94 ⟨Nat.le_of_ble_eq_true rfl, Nat.le_of_ble_eq_true rfl⟩ hl.1 (Nat.le_of_ble_eq_true rfl) dX8_scanSign_94 (fun H locs Z => ?_)
  refine lv_if_ge (tgt := 117) hx hb dX8_scanSign_97 (by decide) (fun c97 => ?_) (fun c97 => ?_)
  · have hf := if_t c97 hf
    refine lv_aload_n hx hb dX8_scanSign_117 rfl (lv_at hl 0 rfl) ?_
    refine lv_iload_n hx hb dX8_scanSign_118 rfl (lv_at hl 1 rfl) ?_
    refine lv_iconst (v := 1) hx hb dX8_scanSign_119 (by decide) ?_
    obtain ⟨q120, h120, hf⟩ := bind_some hf
    refine krX8_60_X8_token F K E hA Z h120 ⟨Nat.le_of_ble_eq_true rfl, Nat.le_of_ble_eq_true rfl⟩ hl.1 (Nat.le_of_ble_eq_true rfl) dX8_scanSign_120 (fun H locs Z => ?_)
    refine lv_goto (tgt := 132) hx hb dX8_scanSign_123 (by decide) ?_
    have hf := Option.some.inj hf
    subst hf
    exact ret_v F hr hk Z dX8_scanSign_132
  have hf := if_f c97 hf
  refine lv_aload_n hx hb dX8_scanSign_100 rfl (lv_at hl 0 rfl) ?_
  refine grX8_19_2 F K Z dX8_scanSign_101 ?_
  refine lv_if_eq (tgt := 126) hx hb dX8_scanSign_104 (by decide) (fun c104 => ?_) (fun c104 => ?_)
  · have hf := if_t c104 hf
    refine lv_aload_n hx hb dX8_scanSign_126 rfl (lv_at hl 0 rfl) ?_
    refine lv_iconst (v := -1) hx hb dX8_scanSign_127 (by decide) ?_
    refine lv_iconst (v := 0) hx hb dX8_scanSign_128 (by decide) ?_
    obtain ⟨q129, h129, hf⟩ := bind_some hf
    refine krX8_60_X8_token F K E hA Z h129 ⟨Nat.le_of_ble_eq_true rfl, Nat.le_of_ble_eq_true rfl⟩ hl.1 (Nat.le_of_ble_eq_true rfl) dX8_scanSign_129 (fun H locs Z => ?_)
    have hf := Option.some.inj hf
    subst hf
    exact ret_v F hr hk Z dX8_scanSign_132
  have hf := if_f c104 hf
  refine va_ldcS hx hb F.2.2.2.1 E.2.2.1.2.1 dX8_scanSign_107 ?_
  refine lv_iload_n hx hb dX8_scanSign_109 rfl (lv_at hl 1 rfl) ?_
  refine lv_i2c hx hb dX8_scanSign_110 rfl ?_
  obtain ⟨q111, h111, hf⟩ := bind_some hf
  refine krX8_66_J0_indexOf_0f7a4_s1 F K E hA Z h111 ⟨Nat.le_of_ble_eq_true rfl, Nat.le_of_ble_eq_true rfl⟩ hl.1 (Nat.le_of_ble_eq_true rfl) dX8_scanSign_111 (fun H locs Z => ?_)
  refine lv_if_lt (tgt := 126) hx hb dX8_scanSign_114 (by decide) (fun c114 => ?_) (fun c114 => ?_)
  · have hf := if_t c114 hf
    refine lv_aload_n hx hb dX8_scanSign_126 rfl (lv_at hl 0 rfl) ?_
    refine lv_iconst (v := -1) hx hb dX8_scanSign_127 (by decide) ?_
    refine lv_iconst (v := 0) hx hb dX8_scanSign_128 (by decide) ?_
    obtain ⟨q129, h129, hf⟩ := bind_some hf
    refine krX8_60_X8_token F K E hA Z h129 ⟨Nat.le_of_ble_eq_true rfl, Nat.le_of_ble_eq_true rfl⟩ hl.1 (Nat.le_of_ble_eq_true rfl) dX8_scanSign_129 (fun H locs Z => ?_)
    have hf := Option.some.inj hf
    subst hf
    exact ret_v F hr hk Z dX8_scanSign_132
  have hf := if_f c114 hf
  refine lv_aload_n hx hb dX8_scanSign_117 rfl (lv_at hl 0 rfl) ?_
  refine lv_iload_n hx hb dX8_scanSign_118 rfl (lv_at hl 1 rfl) ?_
  refine lv_iconst (v := 1) hx hb dX8_scanSign_119 (by decide) ?_
  obtain ⟨q120, h120, hf⟩ := bind_some hf
  refine krX8_60_X8_token F K E hA Z h120 ⟨Nat.le_of_ble_eq_true rfl, Nat.le_of_ble_eq_true rfl⟩ hl.1 (Nat.le_of_ble_eq_true rfl) dX8_scanSign_120 (fun H locs Z => ?_)
  refine lv_goto (tgt := 132) hx hb dX8_scanSign_123 (by decide) ?_
  have hf := Option.some.inj hf
  subst hf
  exact ret_v F hr hk Z dX8_scanSign_132
set_option maxRecDepth 100000 in
set_option maxHeartbeats 4000000 in
theorem b_X8_scanSign_44 {p : Program} {l : Launch} {e : Env} {s : State} {m : MethodId} {args : Array Value} {below : List Frame} {meth : Method} {c : Code} {D : va_G} {A : Nat → Prop} {ad : Nat → Nat} {cy : Nat → ClassId} {ee : EE} {n : Nat} {res : StT} (F : CallFix p m c cX8_scanSign 2 s args (Cond.code yX8_scanSign cX8_scanSign 2 none :: Gw) yX8_scanSign.cls) (hr : meth.sig.returnType = none) (hk : meth.locks = false) (K : va_K D vwCl (tyL cy) s) (E : EV ee A s s.heap) (hA : ∀ q, s.heap.size ≤ q → A q) : ∀ (st : StT) (x1 : Int32), f_X8_scanSign_44 n st x1 = some res → ∀ (H : Heap) (locs : List Loc) (ls : Array Slot), ZG D (wC ad cy st) A s H locs → lv_has ls 2 [(0, .ref (ad 2)), (1, .int x1)] → W p l e { frames := 4, cells := 0, slots := 0, locals := 91 } s m args below meth c H locs 0 0 (MQ below (QC D (none) (wC ad cy res) A) args s 0 0 A) (F0 m 44 ls []) := by
  have hx := F.1
  have hb := F.2.1
  intro st x1 hf H locs ls Z hl
  unfold f_X8_scanSign_44 at hf
  refine lv_iload_n hx hb dX8_scanSign_44 rfl (lv_at hl 1 rfl) ?_
  refine lv_bipush (v := 60) hx hb dX8_scanSign_45 (by decide) ?_
  refine lv_icmp_ne (tgt := 90) hx hb dX8_scanSign_47 (by decide) (fun c47 => ?_) (fun c47 => ?_)
  · have hf := if_f c47 hf
    exact b_X8_scanSign_90 F hr hk K E hA _ _ hf _ _ _ Z hl
  have hf := if_t c47 hf
  refine lv_aload_n hx hb dX8_scanSign_50 rfl (lv_at hl 0 rfl) ?_
  refine lv_aload_n hx hb dX8_scanSign_51 rfl (lv_at hl 0 rfl) ?_
  refine grX8_29_2 F K Z dX8_scanSign_52 ?_
  refine lv_iconst (v := 1) hx hb dX8_scanSign_55 (by decide) ?_
  refine lv_iadd hx hb dX8_scanSign_56 ?_
  obtain ⟨q57, h57, hf⟩ := bind_some hf
  refine krX8_32_X8_byteAt F K E hA Z h57 ⟨Nat.le_of_ble_eq_true rfl, Nat.le_of_ble_eq_true rfl⟩ hl.1 (Nat.le_of_ble_eq_true rfl) dX8_scanSign_57 (fun H locs Z => ?_)
  refine lv_bipush (v := 45) hx hb dX8_scanSign_60 (by decide) ?_
  refine lv_icmp_ne (tgt := 90) hx hb dX8_scanSign_62 (by decide) (fun c62 => ?_) (fun c62 => ?_)
  · have hf := if_f c62 hf
    exact b_X8_scanSign_90 F hr hk K E hA _ _ hf _ _ _ Z hl
  have hf := if_t c62 hf
  refine lv_aload_n hx hb dX8_scanSign_65 rfl (lv_at hl 0 rfl) ?_
  refine lv_aload_n hx hb dX8_scanSign_66 rfl (lv_at hl 0 rfl) ?_
  refine grX8_29_2 F K Z dX8_scanSign_67 ?_
  refine lv_iconst (v := 2) hx hb dX8_scanSign_70 (by decide) ?_
  refine lv_iadd hx hb dX8_scanSign_71 ?_
  obtain ⟨q72, h72, hf⟩ := bind_some hf
  refine krX8_32_X8_byteAt F K E hA Z h72 ⟨Nat.le_of_ble_eq_true rfl, Nat.le_of_ble_eq_true rfl⟩ hl.1 (Nat.le_of_ble_eq_true rfl) dX8_scanSign_72 (fun H locs Z => ?_)
  refine lv_bipush (v := 62) hx hb dX8_scanSign_75 (by decide) ?_
  refine lv_icmp_ne (tgt := 90) hx hb dX8_scanSign_77 (by decide) (fun c77 => ?_) (fun c77 => ?_)
  · have hf := if_f c77 hf
    exact b_X8_scanSign_90 F hr hk K E hA _ _ hf _ _ _ Z hl
  have hf := if_t c77 hf
  refine lv_aload_n hx hb dX8_scanSign_80 rfl (lv_at hl 0 rfl) ?_
  refine lv_bipush (v := 61) hx hb dX8_scanSign_81 (by decide) ?_
  refine lv_iconst (v := 3) hx hb dX8_scanSign_83 (by decide) ?_
  obtain ⟨q84, h84, hf⟩ := bind_some hf
  refine krX8_60_X8_token F K E hA Z h84 ⟨Nat.le_of_ble_eq_true rfl, Nat.le_of_ble_eq_true rfl⟩ hl.1 (Nat.le_of_ble_eq_true rfl) dX8_scanSign_84 (fun H locs Z => ?_)
  refine lv_goto (tgt := 132) hx hb dX8_scanSign_87 (by decide) ?_
  have hf := Option.some.inj hf
  subst hf
  exact ret_v F hr hk Z dX8_scanSign_132
set_option maxRecDepth 100000 in
set_option maxHeartbeats 4000000 in
theorem c_X8_scanSign {l : Launch} {D : va_G} {ad : Nat → Nat} {cy : Nat → ClassId} {ee : EE} {n : Nat} {st : StT} {x1 : Int32} {res : StT} (hf : f_X8_scanSign n st x1 = some res) : CT l yX8_scanSign cX8_scanSign 2 none 4 91 D cy ee (wC ad cy st) (wC ad cy res) [.ref (ad 2), .int x1] (none) := by
  refine CT.of (by decide +kernel) (Nat.le_of_ble_eq_true rfl) ?_
  intro p e s m args below meth c A F hr hk K E hA Z ls hl
  have hl : lv_has ls 2 [(0, .ref (ad 2)), (1, .int x1)] := hl
  have hx := F.1
  have hb := F.2.1
  unfold f_X8_scanSign at hf
  refine lv_iload_n hx hb dX8_scanSign_0 rfl (lv_at hl 1 rfl) ?_
  refine lv_if_ge (tgt := 13) hx hb dX8_scanSign_1 (by decide) (fun c1 => ?_) (fun c1 => ?_)
  · have hf := if_t c1 hf
    refine lv_iload_n hx hb dX8_scanSign_13 rfl (lv_at hl 1 rfl) ?_
    refine lv_bipush (v := 45) hx hb dX8_scanSign_14 (by decide) ?_
    refine lv_icmp_ne (tgt := 44) hx hb dX8_scanSign_16 (by decide) (fun c16 => ?_) (fun c16 => ?_)
    · have hf := if_f c16 hf
      exact b_X8_scanSign_44 F hr hk K E hA _ _ hf _ _ _ Z hl
    have hf := if_t c16 hf
    refine lv_aload_n hx hb dX8_scanSign_19 rfl (lv_at hl 0 rfl) ?_
    refine lv_aload_n hx hb dX8_scanSign_20 rfl (lv_at hl 0 rfl) ?_
    refine grX8_29_2 F K Z dX8_scanSign_21 ?_
    refine lv_iconst (v := 1) hx hb dX8_scanSign_24 (by decide) ?_
    refine lv_iadd hx hb dX8_scanSign_25 ?_
    obtain ⟨q26, h26, hf⟩ := bind_some hf
    refine krX8_32_X8_byteAt F K E hA Z h26 ⟨Nat.le_of_ble_eq_true rfl, Nat.le_of_ble_eq_true rfl⟩ hl.1 (Nat.le_of_ble_eq_true rfl) dX8_scanSign_26 (fun H locs Z => ?_)
    refine lv_bipush (v := 62) hx hb dX8_scanSign_29 (by decide) ?_
    refine lv_icmp_ne (tgt := 44) hx hb dX8_scanSign_31 (by decide) (fun c31 => ?_) (fun c31 => ?_)
    · have hf := if_f c31 hf
      exact b_X8_scanSign_44 F hr hk K E hA _ _ hf _ _ _ Z hl
    have hf := if_t c31 hf
    refine lv_aload_n hx hb dX8_scanSign_34 rfl (lv_at hl 0 rfl) ?_
    refine lv_bipush (v := 62) hx hb dX8_scanSign_35 (by decide) ?_
    refine lv_iconst (v := 2) hx hb dX8_scanSign_37 (by decide) ?_
    obtain ⟨q38, h38, hf⟩ := bind_some hf
    refine krX8_60_X8_token F K E hA Z h38 ⟨Nat.le_of_ble_eq_true rfl, Nat.le_of_ble_eq_true rfl⟩ hl.1 (Nat.le_of_ble_eq_true rfl) dX8_scanSign_38 (fun H locs Z => ?_)
    refine lv_goto (tgt := 132) hx hb dX8_scanSign_41 (by decide) ?_
    have hf := Option.some.inj hf
    subst hf
    exact ret_v F hr hk Z dX8_scanSign_132
  have hf := if_f c1 hf
  refine lv_aload_n hx hb dX8_scanSign_4 rfl (lv_at hl 0 rfl) ?_
  refine lv_iconst (v := 0) hx hb dX8_scanSign_5 (by decide) ?_
  refine lv_iconst (v := 0) hx hb dX8_scanSign_6 (by decide) ?_
  obtain ⟨q7, h7, hf⟩ := bind_some hf
  refine krX8_60_X8_token F K E hA Z h7 ⟨Nat.le_of_ble_eq_true rfl, Nat.le_of_ble_eq_true rfl⟩ hl.1 (Nat.le_of_ble_eq_true rfl) dX8_scanSign_7 (fun H locs Z => ?_)
  refine lv_goto (tgt := 132) hx hb dX8_scanSign_10 (by decide) ?_
  have hf := Option.some.inj hf
  subst hf
  exact ret_v F hr hk Z dX8_scanSign_132
def f_X8_isDigit (n : Nat) (st : StT) (x0 : Int32) : Option (Int32 × StT) := if x0 < (48 : Int32) then (some ((0 : Int32), st)) else (if (57 : Int32) < x0 then (some ((0 : Int32), st)) else (some ((1 : Int32), st)))
theorem wd481 : Cond.fieldLink RX8 53 "WorldProver$Tokens" "name" "J" ∈ Gw := gT1 (List.mem_of_getElem? (i := 43) rfl) rfl
theorem wd482 : Cond.constantLong RX8 73 (1953658213) ∈ Gw := gT3 (List.mem_of_getElem? (i := 4) rfl) rfl
theorem wd483 : Cond.constantLong RX8 75 (439721161573) ∈ Gw := gT3 (List.mem_of_getElem? (i := 5) rfl) rfl
section
variable {p : Program} {l : Launch} {e : Env} {R : Room} {s : State} {m : MethodId} {args : Array Value} {below : List Frame} {meth : Method} {c : Code} {H : Heap} {locs : List Loc} {Q : State → Prop}
variable {cc : ByteArray} {nL pc : Nat} {ls : Array Slot} {rest : List Value} {D : va_G} {A : Nat → Prop} {cw : Cond} {ad : Nat → Nat} {cy : Nat → ClassId} {ee : EE} {st : StT} {own : String}
theorem prX8_53_2 {v : Int64} (F : CallFix p m c cc nL s args (cw :: Gw) RX8) (K : va_K D vwCl (tyL cy) s) (Z : ZG D (wC ad cy st) A s H locs) (hd : decode cc pc = .ok (.putfield 53, 3)) (kk : ∀ (H1 : Heap) (locs1 : List Loc), ZG D (wC ad cy (uL st 0 v)) A s H1 locs1 → W p l e R s m args below meth c H1 locs1 0 0 Q (F0 m (pc + 3) ls rest)) : W p l e R s m args below meth c H locs 0 0 Q (F0 m pc ls (.long v :: .ref (ad 2) :: rest)) :=
  va_put (D := D) (ci := 8) (v := .long v) (ty := .long) (C := RX8) (T := TX8) (N := 8) F.1 F.2.1 F.2.2.2.2 (fun w h => List.mem_cons_of_mem _ (inG_X8 w h)) tyX8 tyX8_ok nmX8 F.2.2.2.1 K Z.1 Z.2.1 Z.2.2 2 rfl rfl 7 (by decide) (F.2.2.2.2 _ (List.mem_cons_of_mem _ wd481)) (fun _ h => h) rfl (by decide +kernel) rfl rfl (Nat.le_of_ble_eq_true rfl) hd (fun H1 locs1 hP hD hS => kk H1 locs1 ⟨hP, hD, hS⟩)
end
set_option maxRecDepth 100000 in
set_option maxHeartbeats 4000000 in
theorem c_X8_isDigit {l : Launch} {D : va_G} {ad : Nat → Nat} {cy : Nat → ClassId} {ee : EE} {n : Nat} {st : StT} {x0 : Int32} {res : (Int32 × StT)} (hf : f_X8_isDigit n st x0 = some res) : CT l yX8_isDigit cX8_isDigit 1 (some .boolean) 0 0 D cy ee (wC ad cy st) (wC ad cy res.2) [.int x0] (some (.int res.1)) := by
  refine CT.of (by decide +kernel) (Nat.le_of_ble_eq_true rfl) ?_
  intro p e s m args below meth c A F hr hk K E hA Z ls hl
  have hl : lv_has ls 1 [(0, .int x0)] := hl
  have hx := F.1
  have hb := F.2.1
  unfold f_X8_isDigit at hf
  refine lv_iload_n hx hb dX8_isDigit_0 rfl (lv_at hl 0 rfl) ?_
  refine lv_bipush (v := 48) hx hb dX8_isDigit_1 (by decide) ?_
  refine lv_icmp_lt (tgt := 16) hx hb dX8_isDigit_3 (by decide) (fun c3 => ?_) (fun c3 => ?_)
  · have hf := if_t c3 hf
    refine lv_iconst (v := 0) hx hb dX8_isDigit_16 (by decide) ?_
    have hf := Option.some.inj hf
    subst hf
    exact ret_z F hr hk Z rfl dX8_isDigit_17
  have hf := if_f c3 hf
  refine lv_iload_n hx hb dX8_isDigit_6 rfl (lv_at hl 0 rfl) ?_
  refine lv_bipush (v := 57) hx hb dX8_isDigit_7 (by decide) ?_
  refine lv_icmp_gt (tgt := 16) hx hb dX8_isDigit_9 (by decide) (fun c9 => ?_) (fun c9 => ?_)
  · have hf := if_t c9 hf
    refine lv_iconst (v := 0) hx hb dX8_isDigit_16 (by decide) ?_
    have hf := Option.some.inj hf
    subst hf
    exact ret_z F hr hk Z rfl dX8_isDigit_17
  have hf := if_f c9 hf
  refine lv_iconst (v := 1) hx hb dX8_isDigit_12 (by decide) ?_
  refine lv_goto (tgt := 17) hx hb dX8_isDigit_13 (by decide) ?_
  have hf := Option.some.inj hf
  subst hf
  exact ret_z F hr hk Z rfl dX8_isDigit_17
def f_X8_scanName_63 (n : Nat) (st : StT) (x1 : Int32) (x2 : Int64) : Option StT := if x1 ≤ (6 : Int32) then (if (lg_cmp x2 (1953658213 : Int64)) = 0 then ((f_X8_token n (uL st 0 x2) (116 : Int32) x1).bind fun q95 => (some q95)) else (if (lg_cmp x2 (439721161573 : Int64)) = 0 then ((f_X8_token n (uL st 0 x2) (102 : Int32) x1).bind fun q113 => (some q113)) else ((f_X8_token n (uL st 0 x2) (110 : Int32) x1).bind fun q123 => (some q123)))) else ((f_X8_token n (uL st 0 x2) (-1 : Int32) (0 : Int32)).bind fun q77 => (some q77))
def f_X8_scanName_36 (n : Nat) (k14 : StT → Int32 → Int64 → Int32 → Option StT) (st : StT) (x1 : Int32) (x2 : Int64) (x4 : Int32) : Option StT := (f_X8_byteAt n st ((st.1 4) + (x1 + (1 : Int32)))).bind fun q55 => (k14 q55.2 (x1 + (1 : Int32)) ((x2 <<< ((8 : Int32).toInt64 &&& 63)) ||| x4.toInt64) q55.1)
def f_X8_scanName_14 (n : Nat) : Nat → StT → Int32 → Int64 → Int32 → Option StT
  | 0, _, _, _, _ => none
  | k + 1, st, x1, x2, x4 => if (6 : Int32) < x1 then (f_X8_scanName_63 n st x1 x2) else ((f_X8_isLetter n st x4).bind fun q22 => (if q22.1 = 0 then ((f_X8_isDigit n q22.2 x4).bind fun q30 => (if q30.1 = 0 then (f_X8_scanName_63 n q30.2 x1 x2) else (f_X8_scanName_36 n (f_X8_scanName_14 n k) q30.2 x1 x2 x4))) else (f_X8_scanName_36 n (f_X8_scanName_14 n k) q22.2 x1 x2 x4)))
def f_X8_scanName (n : Nat) (st : StT) : Option StT := (f_X8_byteAt n st (st.1 4)).bind fun q9 => (f_X8_scanName_14 n n q9.2 (0 : Int32) (0 : Int64) q9.1)
theorem wd484 : Cond.methodLink RX8 57 yX8_isDigit ∈ Gw := gT2 (List.mem_of_getElem? (i := 237) rfl) rfl
theorem wd485 : Cond.code yX8_isDigit prog_10_method_16_code 1 (some .boolean) ∈ Gw := gT2 (List.mem_of_getElem? (i := 239) rfl) rfl
theorem wd486 : Cond.static yX8_isDigit ∈ Gw := gT2 (List.mem_of_getElem? (i := 238) rfl) rfl
theorem wd487 : Cond.methodLink RX8 40 yX8_isLetter ∈ Gw := gT2 (List.mem_of_getElem? (i := 230) rfl) rfl
theorem wd488 : Cond.code yX8_isLetter prog_10_method_15_code 1 (some .boolean) ∈ Gw := gT2 (List.mem_of_getElem? (i := 232) rfl) rfl
theorem wd489 : Cond.static yX8_isLetter ∈ Gw := gT2 (List.mem_of_getElem? (i := 231) rfl) rfl
section
variable {p : Program} {l : Launch} {e : Env} {R : Room} {s : State} {m : MethodId} {args : Array Value} {below : List Frame} {meth : Method} {c : Code} {H : Heap} {locs : List Loc} {Q : State → Prop}
variable {cc : ByteArray} {nL pc : Nat} {ls : Array Slot} {rest : List Value} {D : va_G} {A : Nat → Prop} {cw : Cond} {ad : Nat → Nat} {cy : Nat → ClassId} {ee : EE} {st : StT} {own : String}
theorem krX8_57_X8_isDigit {n : Nat} {a0 : Int32} {q : (Int32 × StT)} (F : CallFix p m c cc nL s args (cw :: Gw) RX8) (K : va_K D vwCl (tyL cy) s) (E : EV ee A s s.heap) (hA : ∀ q, s.heap.size ≤ q → A q) (Z : ZG D (wC ad cy st) A s H locs) (hf : f_X8_isDigit n st a0 = some q) (hR : 1 ≤ R.frames ∧ 20 ≤ R.locals) (hl : ls.size = nL) (hst : (rest.map fun v => v.category).sum ≤ 8) (hd : decode cc pc = .ok (.invokestatic 57, 3)) (kk : ∀ (H1 : Heap) (locs1 : List Loc), ZG D (wC ad cy q.2) A s H1 locs1 → W p l e R s m args below meth c H1 locs1 0 0 Q (F0 m (pc + 3) ls (.int q.1 :: rest))) : W p l e R s m args below meth c H locs 0 0 Q (F0 m pc ls (.int a0 :: rest)) :=
  call_S (n := 1) (As := [.int a0]) (rv := some (.int q.1)) F K E hA Z (c_X8_isDigit (l := l) (D := D) (ad := ad) (cy := cy) (ee := ee) hf) ⟨wd485, wd484, wd486, wd472⟩ (by decide +kernel) hR rfl hl hst hd kk
theorem krX8_40_X8_isLetter {n : Nat} {a0 : Int32} {q : (Int32 × StT)} (F : CallFix p m c cc nL s args (cw :: Gw) RX8) (K : va_K D vwCl (tyL cy) s) (E : EV ee A s s.heap) (hA : ∀ q, s.heap.size ≤ q → A q) (Z : ZG D (wC ad cy st) A s H locs) (hf : f_X8_isLetter n st a0 = some q) (hR : 1 ≤ R.frames ∧ 20 ≤ R.locals) (hl : ls.size = nL) (hst : (rest.map fun v => v.category).sum ≤ 8) (hd : decode cc pc = .ok (.invokestatic 40, 3)) (kk : ∀ (H1 : Heap) (locs1 : List Loc), ZG D (wC ad cy q.2) A s H1 locs1 → W p l e R s m args below meth c H1 locs1 0 0 Q (F0 m (pc + 3) ls (.int q.1 :: rest))) : W p l e R s m args below meth c H locs 0 0 Q (F0 m pc ls (.int a0 :: rest)) :=
  call_S (n := 1) (As := [.int a0]) (rv := some (.int q.1)) F K E hA Z (c_X8_isLetter (l := l) (D := D) (ad := ad) (cy := cy) (ee := ee) hf) ⟨wd488, wd487, wd489, wd472⟩ (by decide +kernel) hR rfl hl hst hd kk
end
set_option maxRecDepth 100000 in
set_option maxHeartbeats 4000000 in
theorem b_X8_scanName_63 {p : Program} {l : Launch} {e : Env} {s : State} {m : MethodId} {args : Array Value} {below : List Frame} {meth : Method} {c : Code} {D : va_G} {A : Nat → Prop} {ad : Nat → Nat} {cy : Nat → ClassId} {ee : EE} {n : Nat} {res : StT} (F : CallFix p m c cX8_scanName 5 s args (Cond.code yX8_scanName cX8_scanName 5 none :: Gw) yX8_scanName.cls) (hr : meth.sig.returnType = none) (hk : meth.locks = false) (K : va_K D vwCl (tyL cy) s) (E : EV ee A s s.heap) (hA : ∀ q, s.heap.size ≤ q → A q) : ∀ (st : StT) (x1 : Int32) (x2 : Int64), f_X8_scanName_63 n st x1 x2 = some res → ∀ (H : Heap) (locs : List Loc) (ls : Array Slot), ZG D (wC ad cy st) A s H locs → lv_has ls 5 [(0, .ref (ad 2)), (1, .int x1), (2, .long x2)] → W p l e { frames := 1, cells := 0, slots := 0, locals := 22 } s m args below meth c H locs 0 0 (MQ below (QC D (none) (wC ad cy res) A) args s 0 0 A) (F0 m 63 ls []) := by
  have hx := F.1
  have hb := F.2.1
  intro st x1 x2 hf H locs ls Z hl
  unfold f_X8_scanName_63 at hf
  refine lv_aload_n hx hb dX8_scanName_63 rfl (lv_at hl 0 rfl) ?_
  refine lv_lload_n hx hb dX8_scanName_64 rfl (lv_at hl 2 rfl) ?_
  refine prX8_53_2 F K Z dX8_scanName_65 (fun H locs Z => ?_)
  refine lv_iload_n hx hb dX8_scanName_68 rfl (lv_at hl 1 rfl) ?_
  refine lv_bipush (v := 6) hx hb dX8_scanName_69 (by decide) ?_
  refine lv_icmp_le (tgt := 83) hx hb dX8_scanName_71 (by decide) (fun c71 => ?_) (fun c71 => ?_)
  · have hf := if_t c71 hf
    refine lv_lload_n hx hb dX8_scanName_83 rfl (lv_at hl 2 rfl) ?_
    refine lv_ldc2 (v := 1953658213) hx hb F.2.2.2.1 (F.2.2.2.2 _ (List.mem_cons_of_mem _ wd482)) dX8_scanName_84 ?_
    refine W.lcmp hx hb dX8_scanName_87 ?_
    refine lv_if_ne (tgt := 101) hx hb dX8_scanName_88 (by decide) (fun c88 => ?_) (fun c88 => ?_)
    · have hf := if_f c88 hf
      refine lv_lload_n hx hb dX8_scanName_101 rfl (lv_at hl 2 rfl) ?_
      refine lv_ldc2 (v := 439721161573) hx hb F.2.2.2.1 (F.2.2.2.2 _ (List.mem_cons_of_mem _ wd483)) dX8_scanName_102 ?_
      refine W.lcmp hx hb dX8_scanName_105 ?_
      refine lv_if_ne (tgt := 119) hx hb dX8_scanName_106 (by decide) (fun c106 => ?_) (fun c106 => ?_)
      · have hf := if_f c106 hf
        refine lv_aload_n hx hb dX8_scanName_119 rfl (lv_at hl 0 rfl) ?_
        refine lv_bipush (v := 110) hx hb dX8_scanName_120 (by decide) ?_
        refine lv_iload_n hx hb dX8_scanName_122 rfl (lv_at hl 1 rfl) ?_
        obtain ⟨q123, h123, hf⟩ := bind_some hf
        refine krX8_60_X8_token F K E hA Z h123 ⟨Nat.le_of_ble_eq_true rfl, Nat.le_of_ble_eq_true rfl⟩ hl.1 (Nat.le_of_ble_eq_true rfl) dX8_scanName_123 (fun H locs Z => ?_)
        have hf := Option.some.inj hf
        subst hf
        exact ret_v F hr hk Z dX8_scanName_126
      have hf := if_t c106 hf
      refine lv_aload_n hx hb dX8_scanName_109 rfl (lv_at hl 0 rfl) ?_
      refine lv_bipush (v := 102) hx hb dX8_scanName_110 (by decide) ?_
      refine lv_iload_n hx hb dX8_scanName_112 rfl (lv_at hl 1 rfl) ?_
      obtain ⟨q113, h113, hf⟩ := bind_some hf
      refine krX8_60_X8_token F K E hA Z h113 ⟨Nat.le_of_ble_eq_true rfl, Nat.le_of_ble_eq_true rfl⟩ hl.1 (Nat.le_of_ble_eq_true rfl) dX8_scanName_113 (fun H locs Z => ?_)
      refine lv_goto (tgt := 126) hx hb dX8_scanName_116 (by decide) ?_
      have hf := Option.some.inj hf
      subst hf
      exact ret_v F hr hk Z dX8_scanName_126
    have hf := if_t c88 hf
    refine lv_aload_n hx hb dX8_scanName_91 rfl (lv_at hl 0 rfl) ?_
    refine lv_bipush (v := 116) hx hb dX8_scanName_92 (by decide) ?_
    refine lv_iload_n hx hb dX8_scanName_94 rfl (lv_at hl 1 rfl) ?_
    obtain ⟨q95, h95, hf⟩ := bind_some hf
    refine krX8_60_X8_token F K E hA Z h95 ⟨Nat.le_of_ble_eq_true rfl, Nat.le_of_ble_eq_true rfl⟩ hl.1 (Nat.le_of_ble_eq_true rfl) dX8_scanName_95 (fun H locs Z => ?_)
    refine lv_goto (tgt := 126) hx hb dX8_scanName_98 (by decide) ?_
    have hf := Option.some.inj hf
    subst hf
    exact ret_v F hr hk Z dX8_scanName_126
  have hf := if_f c71 hf
  refine lv_aload_n hx hb dX8_scanName_74 rfl (lv_at hl 0 rfl) ?_
  refine lv_iconst (v := -1) hx hb dX8_scanName_75 (by decide) ?_
  refine lv_iconst (v := 0) hx hb dX8_scanName_76 (by decide) ?_
  obtain ⟨q77, h77, hf⟩ := bind_some hf
  refine krX8_60_X8_token F K E hA Z h77 ⟨Nat.le_of_ble_eq_true rfl, Nat.le_of_ble_eq_true rfl⟩ hl.1 (Nat.le_of_ble_eq_true rfl) dX8_scanName_77 (fun H locs Z => ?_)
  refine lv_goto (tgt := 126) hx hb dX8_scanName_80 (by decide) ?_
  have hf := Option.some.inj hf
  subst hf
  exact ret_v F hr hk Z dX8_scanName_126
set_option maxRecDepth 100000 in
set_option maxHeartbeats 4000000 in
theorem b_X8_scanName_36 {p : Program} {l : Launch} {e : Env} {s : State} {m : MethodId} {args : Array Value} {below : List Frame} {meth : Method} {c : Code} {D : va_G} {A : Nat → Prop} {ad : Nat → Nat} {cy : Nat → ClassId} {ee : EE} {n : Nat} {res : StT} (F : CallFix p m c cX8_scanName 5 s args (Cond.code yX8_scanName cX8_scanName 5 none :: Gw) yX8_scanName.cls) (hr : meth.sig.returnType = none) (hk : meth.locks = false) (K : va_K D vwCl (tyL cy) s) (E : EV ee A s s.heap) (hA : ∀ q, s.heap.size ≤ q → A q) {k14 : StT → Int32 → Int64 → Int32 → Option StT} (hk14 : ∀ (st : StT) (x1 : Int32) (x2 : Int64) (x4 : Int32), k14 st x1 x2 x4 = some res → ∀ (H : Heap) (locs : List Loc) (ls : Array Slot), ZG D (wC ad cy st) A s H locs → lv_has ls 5 [(0, .ref (ad 2)), (1, .int x1), (2, .long x2), (4, .int x4)] → W p l e { frames := 1, cells := 0, slots := 0, locals := 22 } s m args below meth c H locs 0 0 (MQ below (QC D (none) (wC ad cy res) A) args s 0 0 A) (F0 m 14 ls [])) : ∀ (st : StT) (x1 : Int32) (x2 : Int64) (x4 : Int32), f_X8_scanName_36 n k14 st x1 x2 x4 = some res → ∀ (H : Heap) (locs : List Loc) (ls : Array Slot), ZG D (wC ad cy st) A s H locs → lv_has ls 5 [(0, .ref (ad 2)), (1, .int x1), (2, .long x2), (4, .int x4)] → W p l e { frames := 1, cells := 0, slots := 0, locals := 22 } s m args below meth c H locs 0 0 (MQ below (QC D (none) (wC ad cy res) A) args s 0 0 A) (F0 m 36 ls []) := by
  have hx := F.1
  have hb := F.2.1
  intro st x1 x2 x4 hf H locs ls Z hl
  unfold f_X8_scanName_36 at hf
  refine lv_lload_n hx hb dX8_scanName_36 rfl (lv_at hl 2 rfl) ?_
  refine lv_bipush (v := 8) hx hb dX8_scanName_37 (by decide) ?_
  refine lv_lshl hx hb dX8_scanName_39 rfl ?_
  refine lv_iload hx hb dX8_scanName_40 (lv_at hl 3 rfl) ?_
  refine lv_i2l hx hb dX8_scanName_42 rfl ?_
  refine lv_lor hx hb dX8_scanName_43 ?_
  refine lv_lstore_n (lv' := [(2, .long ((x2 <<< ((8 : Int32).toInt64 &&& 63)) ||| x4.toInt64)), (0, .ref (ad 2)), (1, .int x1), (4, .int x4)]) hx hb dX8_scanName_44 rfl hl (by decide) rfl (fun ls hl => ?_)
  refine lv_iinc (v := (x1 + (1 : Int32))) (lv' := [(1, .int (x1 + (1 : Int32))), (2, .long ((x2 <<< ((8 : Int32).toInt64 &&& 63)) ||| x4.toInt64)), (0, .ref (ad 2)), (4, .int x4)]) hx hb dX8_scanName_45 hl (k := 2) rfl (congrArg (fun z => x1 + z) (by decide)) (by decide) rfl (fun ls hl => ?_)
  refine lv_aload_n hx hb dX8_scanName_48 rfl (lv_at hl 2 rfl) ?_
  refine lv_aload_n hx hb dX8_scanName_49 rfl (lv_at hl 2 rfl) ?_
  refine grX8_29_2 F K Z dX8_scanName_50 ?_
  refine lv_iload_n hx hb dX8_scanName_53 rfl (lv_at hl 0 rfl) ?_
  refine lv_iadd hx hb dX8_scanName_54 ?_
  obtain ⟨q55, h55, hf⟩ := bind_some hf
  refine krX8_32_X8_byteAt F K E hA Z h55 ⟨Nat.le_of_ble_eq_true rfl, Nat.le_of_ble_eq_true rfl⟩ hl.1 (Nat.le_of_ble_eq_true rfl) dX8_scanName_55 (fun H locs Z => ?_)
  refine lv_istore (lv' := [(4, .int q55.1), (1, .int (x1 + (1 : Int32))), (2, .long ((x2 <<< ((8 : Int32).toInt64 &&& 63)) ||| x4.toInt64)), (0, .ref (ad 2))]) hx hb dX8_scanName_58 hl (by decide) rfl (fun ls hl => ?_)
  refine lv_goto (tgt := 14) hx hb dX8_scanName_60 (by decide) ?_
  exact hk14 _ _ _ _ hf _ _ _ Z (lv_sub hl [3, 1, 2, 0] rfl)
set_option maxRecDepth 100000 in
set_option maxHeartbeats 4000000 in
theorem b_X8_scanName_14 {p : Program} {l : Launch} {e : Env} {s : State} {m : MethodId} {args : Array Value} {below : List Frame} {meth : Method} {c : Code} {D : va_G} {A : Nat → Prop} {ad : Nat → Nat} {cy : Nat → ClassId} {ee : EE} {n : Nat} {res : StT} (F : CallFix p m c cX8_scanName 5 s args (Cond.code yX8_scanName cX8_scanName 5 none :: Gw) yX8_scanName.cls) (hr : meth.sig.returnType = none) (hk : meth.locks = false) (K : va_K D vwCl (tyL cy) s) (E : EV ee A s s.heap) (hA : ∀ q, s.heap.size ≤ q → A q) : ∀ (k : Nat) (st : StT) (x1 : Int32) (x2 : Int64) (x4 : Int32), f_X8_scanName_14 n k st x1 x2 x4 = some res → ∀ (H : Heap) (locs : List Loc) (ls : Array Slot), ZG D (wC ad cy st) A s H locs → lv_has ls 5 [(0, .ref (ad 2)), (1, .int x1), (2, .long x2), (4, .int x4)] → W p l e { frames := 1, cells := 0, slots := 0, locals := 22 } s m args below meth c H locs 0 0 (MQ below (QC D (none) (wC ad cy res) A) args s 0 0 A) (F0 m 14 ls []) := by
  have hx := F.1
  have hb := F.2.1
  intro k
  induction k with
  | zero =>
    intro st x1 x2 x4 hf
    exact absurd hf (by simp [f_X8_scanName_14])
  | succ k ih =>
    intro st x1 x2 x4 hf H locs ls Z hl
    rw [f_X8_scanName_14] at hf
    refine lv_iload_n hx hb dX8_scanName_14 rfl (lv_at hl 1 rfl) ?_
    refine lv_bipush (v := 6) hx hb dX8_scanName_15 (by decide) ?_
    refine lv_icmp_gt (tgt := 63) hx hb dX8_scanName_17 (by decide) (fun c17 => ?_) (fun c17 => ?_)
    · have hf := if_t c17 hf
      exact b_X8_scanName_63 F hr hk K E hA _ _ _ hf _ _ _ Z (lv_sub hl [0, 1, 2] rfl)
    have hf := if_f c17 hf
    refine lv_iload hx hb dX8_scanName_20 (lv_at hl 3 rfl) ?_
    obtain ⟨q22, h22, hf⟩ := bind_some hf
    refine krX8_40_X8_isLetter F K E hA Z h22 ⟨Nat.le_of_ble_eq_true rfl, Nat.le_of_ble_eq_true rfl⟩ hl.1 (Nat.le_of_ble_eq_true rfl) dX8_scanName_22 (fun H locs Z => ?_)
    refine lv_if_ne (tgt := 36) hx hb dX8_scanName_25 (by decide) (fun c25 => ?_) (fun c25 => ?_)
    · have hf := if_f c25 hf
      exact b_X8_scanName_36 F hr hk K E hA ih _ _ _ _ hf _ _ _ Z hl
    have hf := if_t c25 hf
    refine lv_iload hx hb dX8_scanName_28 (lv_at hl 3 rfl) ?_
    obtain ⟨q30, h30, hf⟩ := bind_some hf
    refine krX8_57_X8_isDigit F K E hA Z h30 ⟨Nat.le_of_ble_eq_true rfl, Nat.le_of_ble_eq_true rfl⟩ hl.1 (Nat.le_of_ble_eq_true rfl) dX8_scanName_30 (fun H locs Z => ?_)
    refine lv_if_eq (tgt := 63) hx hb dX8_scanName_33 (by decide) (fun c33 => ?_) (fun c33 => ?_)
    · have hf := if_t c33 hf
      exact b_X8_scanName_63 F hr hk K E hA _ _ _ hf _ _ _ Z (lv_sub hl [0, 1, 2] rfl)
    have hf := if_f c33 hf
    exact b_X8_scanName_36 F hr hk K E hA ih _ _ _ _ hf _ _ _ Z hl
set_option maxRecDepth 100000 in
set_option maxHeartbeats 4000000 in
theorem c_X8_scanName {l : Launch} {D : va_G} {ad : Nat → Nat} {cy : Nat → ClassId} {ee : EE} {n : Nat} {st : StT} {res : StT} (hf : f_X8_scanName n st = some res) : CT l yX8_scanName cX8_scanName 5 none 1 22 D cy ee (wC ad cy st) (wC ad cy res) [.ref (ad 2)] (none) := by
  refine CT.of (by decide +kernel) (Nat.le_of_ble_eq_true rfl) ?_
  intro p e s m args below meth c A F hr hk K E hA Z ls hl
  have hl : lv_has ls 5 [(0, .ref (ad 2))] := hl
  have hx := F.1
  have hb := F.2.1
  unfold f_X8_scanName at hf
  refine lv_iconst (v := 0) hx hb dX8_scanName_0 (by decide) ?_
  refine lv_istore_n (lv' := [(1, .int (0 : Int32)), (0, .ref (ad 2))]) hx hb dX8_scanName_1 rfl hl (by decide) rfl (fun ls hl => ?_)
  refine lv_lconst (v := 0) hx hb dX8_scanName_2 (by decide) ?_
  refine lv_lstore_n (lv' := [(2, .long (0 : Int64)), (1, .int (0 : Int32)), (0, .ref (ad 2))]) hx hb dX8_scanName_3 rfl hl (by decide) rfl (fun ls hl => ?_)
  refine lv_aload_n hx hb dX8_scanName_4 rfl (lv_at hl 2 rfl) ?_
  refine lv_aload_n hx hb dX8_scanName_5 rfl (lv_at hl 2 rfl) ?_
  refine grX8_29_2 F K Z dX8_scanName_6 ?_
  obtain ⟨q9, h9, hf⟩ := bind_some hf
  refine krX8_32_X8_byteAt F K E hA Z h9 ⟨Nat.le_of_ble_eq_true rfl, Nat.le_of_ble_eq_true rfl⟩ hl.1 (Nat.le_of_ble_eq_true rfl) dX8_scanName_9 (fun H locs Z => ?_)
  refine lv_istore (lv' := [(4, .int q9.1), (2, .long (0 : Int64)), (1, .int (0 : Int32)), (0, .ref (ad 2))]) hx hb dX8_scanName_12 hl (by decide) rfl (fun ls hl => ?_)
  exact b_X8_scanName_14 F hr hk K E hA _ _ _ _ _ hf _ _ _ Z (lv_sub hl [3, 2, 1, 0] rfl)
def f_X8_look_58 (n : Nat) (st : StT) : Option (Int32 × StT) := (f_X8_byteAt n st (st.1 4)).bind fun q63 => ((f_X8_isLetter n q63.2 q63.1).bind fun q68 => (if q68.1 = 0 then ((f_X8_scanSign n q68.2 q63.1).bind fun q83 => (some ((q83.1 3), q83))) else ((f_X8_scanName n q68.2).bind fun q75 => (some ((q75.1 3), q75)))))
def f_X8_look_20 (n : Nat) : Nat → StT → Option (Int32 × StT)
  | 0, _ => none
  | k + 1, st => if (st.1 0) ≤ (st.1 4) then (f_X8_look_58 n st) else ((f_X8_byteAt n st (st.1 4)).bind fun q36 => ((f_X8_isBlank n q36.2 q36.1).bind fun q39 => (if q39.1 = 0 then (f_X8_look_58 n q39.2) else (f_X8_look_20 n k (uF q39.2 4 ((q39.2.1 4) + (1 : Int32)))))))
def f_X8_look (n : Nat) (st : StT) : Option (Int32 × StT) := if (st.1 2) = 0 then (f_X8_look_20 n n (uF (uF st 2 (1 : Int32)) 4 ((uF st 2 (1 : Int32)).1 5))) else (some ((st.1 3), st))
theorem wd490 : Cond.methodLink RX8 36 yX8_isBlank ∈ Gw := gT2 (List.mem_of_getElem? (i := 227) rfl) rfl
theorem wd491 : Cond.code yX8_isBlank prog_10_method_14_code 1 (some .boolean) ∈ Gw := gT2 (List.mem_of_getElem? (i := 229) rfl) rfl
theorem wd492 : Cond.static yX8_isBlank ∈ Gw := gT2 (List.mem_of_getElem? (i := 228) rfl) rfl
theorem wd493 : Cond.methodLink RX8 46 yX8_scanSign ∈ Gw := gT3 (List.mem_of_getElem? (i := 6) rfl) rfl
theorem wd494 : Cond.code yX8_scanSign prog_10_method_11_code 2 none ∈ Gw := gT3 (List.mem_of_getElem? (i := 9) rfl) rfl
theorem wd495 : Cond.instanceMethod yX8_scanSign ∈ Gw := gT3 (List.mem_of_getElem? (i := 8) rfl) rfl
theorem wd496 : Cond.selects RX8 yX8_scanSign yX8_scanSign ∈ Gw := gP1 (q := (yX8_scanSign, 8)) (List.mem_of_getElem? (i := 11) rfl)
theorem wd497 : Cond.methodLink RX8 43 yX8_scanName ∈ Gw := gT2 (List.mem_of_getElem? (i := 233) rfl) rfl
theorem wd498 : Cond.code yX8_scanName prog_10_method_12_code 5 none ∈ Gw := gT2 (List.mem_of_getElem? (i := 236) rfl) rfl
theorem wd499 : Cond.instanceMethod yX8_scanName ∈ Gw := gT2 (List.mem_of_getElem? (i := 235) rfl) rfl
theorem wd500 : Cond.selects RX8 yX8_scanName yX8_scanName ∈ Gw := gP1 (q := (yX8_scanName, 8)) (List.mem_of_getElem? (i := 9) rfl)
section
variable {p : Program} {l : Launch} {e : Env} {R : Room} {s : State} {m : MethodId} {args : Array Value} {below : List Frame} {meth : Method} {c : Code} {H : Heap} {locs : List Loc} {Q : State → Prop}
variable {cc : ByteArray} {nL pc : Nat} {ls : Array Slot} {rest : List Value} {D : va_G} {A : Nat → Prop} {cw : Cond} {ad : Nat → Nat} {cy : Nat → ClassId} {ee : EE} {st : StT} {own : String}
theorem krX8_36_X8_isBlank {n : Nat} {a0 : Int32} {q : (Int32 × StT)} (F : CallFix p m c cc nL s args (cw :: Gw) RX8) (K : va_K D vwCl (tyL cy) s) (E : EV ee A s s.heap) (hA : ∀ q, s.heap.size ≤ q → A q) (Z : ZG D (wC ad cy st) A s H locs) (hf : f_X8_isBlank n st a0 = some q) (hR : 1 ≤ R.frames ∧ 20 ≤ R.locals) (hl : ls.size = nL) (hst : (rest.map fun v => v.category).sum ≤ 8) (hd : decode cc pc = .ok (.invokestatic 36, 3)) (kk : ∀ (H1 : Heap) (locs1 : List Loc), ZG D (wC ad cy q.2) A s H1 locs1 → W p l e R s m args below meth c H1 locs1 0 0 Q (F0 m (pc + 3) ls (.int q.1 :: rest))) : W p l e R s m args below meth c H locs 0 0 Q (F0 m pc ls (.int a0 :: rest)) :=
  call_S (n := 1) (As := [.int a0]) (rv := some (.int q.1)) F K E hA Z (c_X8_isBlank (l := l) (D := D) (ad := ad) (cy := cy) (ee := ee) hf) ⟨wd491, wd490, wd492, wd472⟩ (by decide +kernel) hR rfl hl hst hd kk
theorem krX8_46_X8_scanSign {n : Nat} {a0 : Int32} {q : StT} (F : CallFix p m c cc nL s args (cw :: Gw) RX8) (K : va_K D vwCl (tyL cy) s) (E : EV ee A s s.heap) (hA : ∀ q, s.heap.size ≤ q → A q) (Z : ZG D (wC ad cy st) A s H locs) (hf : f_X8_scanSign n st a0 = some q) (hR : 5 ≤ R.frames ∧ 112 ≤ R.locals) (hl : ls.size = nL) (hst : (rest.map fun v => v.category).sum ≤ 8) (hd : decode cc pc = .ok (.invokevirtual 46, 3)) (kk : ∀ (H1 : Heap) (locs1 : List Loc), ZG D (wC ad cy q) A s H1 locs1 → W p l e R s m args below meth c H1 locs1 0 0 Q (F0 m (pc + 3) ls (rest))) : W p l e R s m args below meth c H locs 0 0 Q (F0 m pc ls (.int a0 :: .ref (ad 2) :: rest)) :=
  call_V (q := (RX8, TX8, 8)) (n := 1) (As := [.int a0]) (rv := none) 2 8 F K E hA Z (c_X8_scanSign (l := l) (D := D) (ad := ad) (cy := cy) (ee := ee) hf) ⟨wd494, wd493, wd495, wd496, wd472⟩ (by decide +kernel) rfl rfl hR rfl hl hst hd kk
theorem krX8_43_X8_scanName {n : Nat}  {q : StT} (F : CallFix p m c cc nL s args (cw :: Gw) RX8) (K : va_K D vwCl (tyL cy) s) (E : EV ee A s s.heap) (hA : ∀ q, s.heap.size ≤ q → A q) (Z : ZG D (wC ad cy st) A s H locs) (hf : f_X8_scanName n st = some q) (hR : 2 ≤ R.frames ∧ 46 ≤ R.locals) (hl : ls.size = nL) (hst : (rest.map fun v => v.category).sum ≤ 8) (hd : decode cc pc = .ok (.invokevirtual 43, 3)) (kk : ∀ (H1 : Heap) (locs1 : List Loc), ZG D (wC ad cy q) A s H1 locs1 → W p l e R s m args below meth c H1 locs1 0 0 Q (F0 m (pc + 3) ls (rest))) : W p l e R s m args below meth c H locs 0 0 Q (F0 m pc ls (.ref (ad 2) :: rest)) :=
  call_V (q := (RX8, TX8, 8)) (n := 0) (As := []) (rv := none) 2 8 F K E hA Z (c_X8_scanName (l := l) (D := D) (ad := ad) (cy := cy) (ee := ee) hf) ⟨wd498, wd497, wd499, wd500, wd472⟩ (by decide +kernel) rfl rfl hR rfl hl hst hd kk
end
set_option maxRecDepth 100000 in
set_option maxHeartbeats 4000000 in
theorem b_X8_look_58 {p : Program} {l : Launch} {e : Env} {s : State} {m : MethodId} {args : Array Value} {below : List Frame} {meth : Method} {c : Code} {D : va_G} {A : Nat → Prop} {ad : Nat → Nat} {cy : Nat → ClassId} {ee : EE} {n : Nat} {res : (Int32 × StT)} (F : CallFix p m c cX8_look 2 s args (Cond.code yX8_look cX8_look 2 (some .int) :: Gw) yX8_look.cls) (hr : meth.sig.returnType = (some .int)) (hk : meth.locks = false) (K : va_K D vwCl (tyL cy) s) (E : EV ee A s s.heap) (hA : ∀ q, s.heap.size ≤ q → A q) : ∀ (st : StT), f_X8_look_58 n st = some res → ∀ (H : Heap) (locs : List Loc) (ls : Array Slot), ZG D (wC ad cy st) A s H locs → lv_has ls 2 [(0, .ref (ad 2))] → W p l e { frames := 5, cells := 0, slots := 0, locals := 112 } s m args below meth c H locs 0 0 (MQ below (QC D (some (.int res.1)) (wC ad cy res.2) A) args s 0 0 A) (F0 m 58 ls []) := by
  have hx := F.1
  have hb := F.2.1
  intro st hf H locs ls Z hl
  unfold f_X8_look_58 at hf
  refine lv_aload_n hx hb dX8_look_58 rfl (lv_at hl 0 rfl) ?_
  refine lv_aload_n hx hb dX8_look_59 rfl (lv_at hl 0 rfl) ?_
  refine grX8_29_2 F K Z dX8_look_60 ?_
  obtain ⟨q63, h63, hf⟩ := bind_some hf
  refine krX8_32_X8_byteAt F K E hA Z h63 ⟨Nat.le_of_ble_eq_true rfl, Nat.le_of_ble_eq_true rfl⟩ hl.1 (Nat.le_of_ble_eq_true rfl) dX8_look_63 (fun H locs Z => ?_)
  refine lv_istore_n (lv' := [(1, .int q63.1), (0, .ref (ad 2))]) hx hb dX8_look_66 rfl hl (by decide) rfl (fun ls hl => ?_)
  refine lv_iload_n hx hb dX8_look_67 rfl (lv_at hl 0 rfl) ?_
  obtain ⟨q68, h68, hf⟩ := bind_some hf
  refine krX8_40_X8_isLetter F K E hA Z h68 ⟨Nat.le_of_ble_eq_true rfl, Nat.le_of_ble_eq_true rfl⟩ hl.1 (Nat.le_of_ble_eq_true rfl) dX8_look_68 (fun H locs Z => ?_)
  refine lv_if_eq (tgt := 81) hx hb dX8_look_71 (by decide) (fun c71 => ?_) (fun c71 => ?_)
  · have hf := if_t c71 hf
    refine lv_aload_n hx hb dX8_look_81 rfl (lv_at hl 1 rfl) ?_
    refine lv_iload_n hx hb dX8_look_82 rfl (lv_at hl 0 rfl) ?_
    obtain ⟨q83, h83, hf⟩ := bind_some hf
    refine krX8_46_X8_scanSign F K E hA Z h83 ⟨Nat.le_of_ble_eq_true rfl, Nat.le_of_ble_eq_true rfl⟩ hl.1 (Nat.le_of_ble_eq_true rfl) dX8_look_83 (fun H locs Z => ?_)
    refine lv_aload_n hx hb dX8_look_86 rfl (lv_at hl 1 rfl) ?_
    refine grX8_50_2 F K Z dX8_look_87 ?_
    have hf := Option.some.inj hf
    subst hf
    exact ret_i F hr hk Z dX8_look_90
  have hf := if_f c71 hf
  refine lv_aload_n hx hb dX8_look_74 rfl (lv_at hl 1 rfl) ?_
  obtain ⟨q75, h75, hf⟩ := bind_some hf
  refine krX8_43_X8_scanName F K E hA Z h75 ⟨Nat.le_of_ble_eq_true rfl, Nat.le_of_ble_eq_true rfl⟩ hl.1 (Nat.le_of_ble_eq_true rfl) dX8_look_75 (fun H locs Z => ?_)
  refine lv_goto (tgt := 86) hx hb dX8_look_78 (by decide) ?_
  refine lv_aload_n hx hb dX8_look_86 rfl (lv_at hl 1 rfl) ?_
  refine grX8_50_2 F K Z dX8_look_87 ?_
  have hf := Option.some.inj hf
  subst hf
  exact ret_i F hr hk Z dX8_look_90
set_option maxRecDepth 100000 in
set_option maxHeartbeats 4000000 in
theorem b_X8_look_20 {p : Program} {l : Launch} {e : Env} {s : State} {m : MethodId} {args : Array Value} {below : List Frame} {meth : Method} {c : Code} {D : va_G} {A : Nat → Prop} {ad : Nat → Nat} {cy : Nat → ClassId} {ee : EE} {n : Nat} {res : (Int32 × StT)} (F : CallFix p m c cX8_look 2 s args (Cond.code yX8_look cX8_look 2 (some .int) :: Gw) yX8_look.cls) (hr : meth.sig.returnType = (some .int)) (hk : meth.locks = false) (K : va_K D vwCl (tyL cy) s) (E : EV ee A s s.heap) (hA : ∀ q, s.heap.size ≤ q → A q) : ∀ (k : Nat) (st : StT), f_X8_look_20 n k st = some res → ∀ (H : Heap) (locs : List Loc) (ls : Array Slot), ZG D (wC ad cy st) A s H locs → lv_has ls 2 [(0, .ref (ad 2))] → W p l e { frames := 5, cells := 0, slots := 0, locals := 112 } s m args below meth c H locs 0 0 (MQ below (QC D (some (.int res.1)) (wC ad cy res.2) A) args s 0 0 A) (F0 m 20 ls []) := by
  have hx := F.1
  have hb := F.2.1
  intro k
  induction k with
  | zero =>
    intro st hf
    exact absurd hf (by simp [f_X8_look_20])
  | succ k ih =>
    intro st hf H locs ls Z hl
    rw [f_X8_look_20] at hf
    refine lv_aload_n hx hb dX8_look_20 rfl (lv_at hl 0 rfl) ?_
    refine grX8_29_2 F K Z dX8_look_21 ?_
    refine lv_aload_n hx hb dX8_look_24 rfl (lv_at hl 0 rfl) ?_
    refine grX8_15_2 F K Z dX8_look_25 ?_
    refine lv_icmp_ge (tgt := 58) hx hb dX8_look_28 (by decide) (fun c28 => ?_) (fun c28 => ?_)
    · have hf := if_t c28 hf
      exact b_X8_look_58 F hr hk K E hA _ hf _ _ _ Z hl
    have hf := if_f c28 hf
    refine lv_aload_n hx hb dX8_look_31 rfl (lv_at hl 0 rfl) ?_
    refine lv_aload_n hx hb dX8_look_32 rfl (lv_at hl 0 rfl) ?_
    refine grX8_29_2 F K Z dX8_look_33 ?_
    obtain ⟨q36, h36, hf⟩ := bind_some hf
    refine krX8_32_X8_byteAt F K E hA Z h36 ⟨Nat.le_of_ble_eq_true rfl, Nat.le_of_ble_eq_true rfl⟩ hl.1 (Nat.le_of_ble_eq_true rfl) dX8_look_36 (fun H locs Z => ?_)
    obtain ⟨q39, h39, hf⟩ := bind_some hf
    refine krX8_36_X8_isBlank F K E hA Z h39 ⟨Nat.le_of_ble_eq_true rfl, Nat.le_of_ble_eq_true rfl⟩ hl.1 (Nat.le_of_ble_eq_true rfl) dX8_look_39 (fun H locs Z => ?_)
    refine lv_if_eq (tgt := 58) hx hb dX8_look_42 (by decide) (fun c42 => ?_) (fun c42 => ?_)
    · have hf := if_t c42 hf
      exact b_X8_look_58 F hr hk K E hA _ hf _ _ _ Z hl
    have hf := if_f c42 hf
    refine lv_aload_n hx hb dX8_look_45 rfl (lv_at hl 0 rfl) ?_
    refine lv_dup hx hb dX8_look_46 rfl ?_
    refine grX8_29_2 F K Z dX8_look_47 ?_
    refine lv_iconst (v := 1) hx hb dX8_look_50 (by decide) ?_
    refine lv_iadd hx hb dX8_look_51 ?_
    refine prX8_29_2 F K Z dX8_look_52 (fun H locs Z => ?_)
    refine lv_goto (tgt := 20) hx hb dX8_look_55 (by decide) ?_
    exact ih _ hf _ _ _ Z hl
set_option maxRecDepth 100000 in
set_option maxHeartbeats 4000000 in
theorem c_X8_look {l : Launch} {D : va_G} {ad : Nat → Nat} {cy : Nat → ClassId} {ee : EE} {n : Nat} {st : StT} {res : (Int32 × StT)} (hf : f_X8_look n st = some res) : CT l yX8_look cX8_look 2 (some .int) 5 112 D cy ee (wC ad cy st) (wC ad cy res.2) [.ref (ad 2)] (some (.int res.1)) := by
  refine CT.of (by decide +kernel) (Nat.le_of_ble_eq_true rfl) ?_
  intro p e s m args below meth c A F hr hk K E hA Z ls hl
  have hl : lv_has ls 2 [(0, .ref (ad 2))] := hl
  have hx := F.1
  have hb := F.2.1
  unfold f_X8_look at hf
  refine lv_aload_n hx hb dX8_look_0 rfl (lv_at hl 0 rfl) ?_
  refine grX8_23_2 F K Z dX8_look_1 ?_
  refine lv_if_ne (tgt := 86) hx hb dX8_look_4 (by decide) (fun c4 => ?_) (fun c4 => ?_)
  · have hf := if_f c4 hf
    refine lv_aload_n hx hb dX8_look_86 rfl (lv_at hl 0 rfl) ?_
    refine grX8_50_2 F K Z dX8_look_87 ?_
    have hf := Option.some.inj hf
    subst hf
    exact ret_i F hr hk Z dX8_look_90
  have hf := if_t c4 hf
  refine lv_aload_n hx hb dX8_look_7 rfl (lv_at hl 0 rfl) ?_
  refine lv_iconst (v := 1) hx hb dX8_look_8 (by decide) ?_
  refine prX8_23_2 F K Z rfl dX8_look_9 (fun H locs Z => ?_)
  refine lv_aload_n hx hb dX8_look_12 rfl (lv_at hl 0 rfl) ?_
  refine lv_aload_n hx hb dX8_look_13 rfl (lv_at hl 0 rfl) ?_
  refine grX8_26_2 F K Z dX8_look_14 ?_
  refine prX8_29_2 F K Z dX8_look_17 (fun H locs Z => ?_)
  exact b_X8_look_20 F hr hk K E hA _ _ hf _ _ _ Z hl
def f_X8_take (n : Nat) (st : StT) : Option StT := some (uF st 2 (0 : Int32))
set_option maxRecDepth 100000 in
set_option maxHeartbeats 4000000 in
theorem c_X8_take {l : Launch} {D : va_G} {ad : Nat → Nat} {cy : Nat → ClassId} {ee : EE} {n : Nat} {st : StT} {res : StT} (hf : f_X8_take n st = some res) : CT l yX8_take cX8_take 1 none 0 0 D cy ee (wC ad cy st) (wC ad cy res) [.ref (ad 2)] (none) := by
  refine CT.of (by decide +kernel) (Nat.le_of_ble_eq_true rfl) ?_
  intro p e s m args below meth c A F hr hk K E hA Z ls hl
  have hl : lv_has ls 1 [(0, .ref (ad 2))] := hl
  have hx := F.1
  have hb := F.2.1
  unfold f_X8_take at hf
  refine lv_aload_n hx hb dX8_take_0 rfl (lv_at hl 0 rfl) ?_
  refine lv_iconst (v := 0) hx hb dX8_take_1 (by decide) ?_
  refine prX8_23_2 F K Z rfl dX8_take_2 (fun H locs Z => ?_)
  have hf := Option.some.inj hf
  subst hf
  exact ret_v F hr hk Z dX8_take_5
def f_X8_start (n : Nat) (st : StT) : Option (Int32 × StT) := some ((st.1 4), st)
set_option maxRecDepth 100000 in
set_option maxHeartbeats 4000000 in
theorem c_X8_start {l : Launch} {D : va_G} {ad : Nat → Nat} {cy : Nat → ClassId} {ee : EE} {n : Nat} {st : StT} {res : (Int32 × StT)} (hf : f_X8_start n st = some res) : CT l yX8_start cX8_start 1 (some .int) 0 0 D cy ee (wC ad cy st) (wC ad cy res.2) [.ref (ad 2)] (some (.int res.1)) := by
  refine CT.of (by decide +kernel) (Nat.le_of_ble_eq_true rfl) ?_
  intro p e s m args below meth c A F hr hk K E hA Z ls hl
  have hl : lv_has ls 1 [(0, .ref (ad 2))] := hl
  have hx := F.1
  have hb := F.2.1
  unfold f_X8_start at hf
  refine lv_aload_n hx hb dX8_start_0 rfl (lv_at hl 0 rfl) ?_
  refine grX8_29_2 F K Z dX8_start_1 ?_
  have hf := Option.some.inj hf
  subst hf
  exact ret_i F hr hk Z dX8_start_4
def f_X8_name (n : Nat) (st : StT) : Option (Int64 × StT) := some ((st.2.2.1 0), st)
section
variable {p : Program} {l : Launch} {e : Env} {R : Room} {s : State} {m : MethodId} {args : Array Value} {below : List Frame} {meth : Method} {c : Code} {H : Heap} {locs : List Loc} {Q : State → Prop}
variable {cc : ByteArray} {nL pc : Nat} {ls : Array Slot} {rest : List Value} {D : va_G} {A : Nat → Prop} {cw : Cond} {ad : Nat → Nat} {cy : Nat → ClassId} {ee : EE} {st : StT} {own : String}
theorem grX8_53_2 (F : CallFix p m c cc nL s args (cw :: Gw) RX8) (K : va_K D vwCl (tyL cy) s) (Z : ZG D (wC ad cy st) A s H locs) (hd : decode cc pc = .ok (.getfield 53, 3)) (kk : W p l e R s m args below meth c H locs 0 0 Q (F0 m (pc + 3) ls (.long (st.2.2.1 0) :: rest))) : W p l e R s m args below meth c H locs 0 0 Q (F0 m pc ls (.ref (ad 2) :: rest)) :=
  va_get (D := D) (ci := 8) (C := RX8) (T := TX8) (N := 8) F.1 F.2.1 F.2.2.2.2 (fun w h => List.mem_cons_of_mem _ (inG_X8 w h)) F.2.2.2.1 K Z.1 2 rfl rfl 7 (by decide) (F.2.2.2.2 _ (List.mem_cons_of_mem _ wd481)) (fun _ h => h) rfl hd kk
end
set_option maxRecDepth 100000 in
set_option maxHeartbeats 4000000 in
theorem c_X8_name {l : Launch} {D : va_G} {ad : Nat → Nat} {cy : Nat → ClassId} {ee : EE} {n : Nat} {st : StT} {res : (Int64 × StT)} (hf : f_X8_name n st = some res) : CT l yX8_name cX8_name 1 (some .long) 0 0 D cy ee (wC ad cy st) (wC ad cy res.2) [.ref (ad 2)] (some (.long res.1)) := by
  refine CT.of (by decide +kernel) (Nat.le_of_ble_eq_true rfl) ?_
  intro p e s m args below meth c A F hr hk K E hA Z ls hl
  have hl : lv_has ls 1 [(0, .ref (ad 2))] := hl
  have hx := F.1
  have hb := F.2.1
  unfold f_X8_name at hf
  refine lv_aload_n hx hb dX8_name_0 rfl (lv_at hl 0 rfl) ?_
  refine grX8_53_2 F K Z dX8_name_1 ?_
  have hf := Option.some.inj hf
  subst hf
  exact ret_l F hr hk Z dX8_name_4
def f_X8_hypothesis_64 (n : Nat) : Nat → StT → Int32 → Int32 → Option (Int32 × StT)
  | 0, _, _, _ => none
  | k + 1, st, x3, x4 => if (st.1 5) ≤ x4 then (some (x3, st)) else ((f_X8_byteAt n st x4).bind fun q76 => ((f_X8_isDigit n q76.2 q76.1).bind fun q83 => (if q83.1 = 0 then (some ((-1 : Int32), q83.2)) else (f_X8_hypothesis_64 n k q83.2 (((x3 * (10 : Int32)) + q76.1) - (48 : Int32)) (x4 + (1 : Int32))))))
def f_X8_hypothesis_54 (n : Nat) (st : StT) : Option (Int32 × StT) := f_X8_hypothesis_64 n n st (0 : Int32) ((st.1 4) + (1 : Int32))
def f_X8_hypothesis (n : Nat) (st : StT) : Option (Int32 × StT) := (f_X8_byteAt n st ((st.1 4) + (1 : Int32))).bind fun q19 => ((f_X8_byteAt n q19.2 (q19.2.1 4)).bind fun q28 => (if q28.1 = (104 : Int32) then (if (((st.1 5) - (st.1 4)) - (1 : Int32)) < (1 : Int32) then (some ((-1 : Int32), q28.2)) else (if q19.1 = (48 : Int32) then (if (((st.1 5) - (st.1 4)) - (1 : Int32)) ≤ (1 : Int32) then (f_X8_hypothesis_54 n q28.2) else (some ((-1 : Int32), q28.2))) else (f_X8_hypothesis_54 n q28.2))) else (some ((-1 : Int32), q28.2))))
set_option maxRecDepth 100000 in
set_option maxHeartbeats 4000000 in
theorem b_X8_hypothesis_64 {p : Program} {l : Launch} {e : Env} {s : State} {m : MethodId} {args : Array Value} {below : List Frame} {meth : Method} {c : Code} {D : va_G} {A : Nat → Prop} {ad : Nat → Nat} {cy : Nat → ClassId} {ee : EE} {n : Nat} {res : (Int32 × StT)} (F : CallFix p m c cX8_hypothesis 6 s args (Cond.code yX8_hypothesis cX8_hypothesis 6 (some .int) :: Gw) yX8_hypothesis.cls) (hr : meth.sig.returnType = (some .int)) (hk : meth.locks = false) (K : va_K D vwCl (tyL cy) s) (E : EV ee A s s.heap) (hA : ∀ q, s.heap.size ≤ q → A q) : ∀ (k : Nat) (st : StT) (x3 : Int32) (x4 : Int32), f_X8_hypothesis_64 n k st x3 x4 = some res → ∀ (H : Heap) (locs : List Loc) (ls : Array Slot), ZG D (wC ad cy st) A s H locs → lv_has ls 6 [(0, .ref (ad 2)), (3, .int x3), (4, .int x4)] → W p l e { frames := 1, cells := 0, slots := 0, locals := 21 } s m args below meth c H locs 0 0 (MQ below (QC D (some (.int res.1)) (wC ad cy res.2) A) args s 0 0 A) (F0 m 64 ls []) := by
  have hx := F.1
  have hb := F.2.1
  intro k
  induction k with
  | zero =>
    intro st x3 x4 hf
    exact absurd hf (by simp [f_X8_hypothesis_64])
  | succ k ih =>
    intro st x3 x4 hf H locs ls Z hl
    rw [f_X8_hypothesis_64] at hf
    refine lv_iload hx hb dX8_hypothesis_64 (lv_at hl 2 rfl) ?_
    refine lv_aload_n hx hb dX8_hypothesis_66 rfl (lv_at hl 0 rfl) ?_
    refine grX8_26_2 F K Z dX8_hypothesis_67 ?_
    refine lv_icmp_ge (tgt := 108) hx hb dX8_hypothesis_70 (by decide) (fun c70 => ?_) (fun c70 => ?_)
    · have hf := if_t c70 hf
      refine lv_iload_n hx hb dX8_hypothesis_108 rfl (lv_at hl 1 rfl) ?_
      have hf := Option.some.inj hf
      subst hf
      exact ret_i F hr hk Z dX8_hypothesis_109
    have hf := if_f c70 hf
    refine lv_aload_n hx hb dX8_hypothesis_73 rfl (lv_at hl 0 rfl) ?_
    refine lv_iload hx hb dX8_hypothesis_74 (lv_at hl 2 rfl) ?_
    obtain ⟨q76, h76, hf⟩ := bind_some hf
    refine krX8_32_X8_byteAt F K E hA Z h76 ⟨Nat.le_of_ble_eq_true rfl, Nat.le_of_ble_eq_true rfl⟩ hl.1 (Nat.le_of_ble_eq_true rfl) dX8_hypothesis_76 (fun H locs Z => ?_)
    refine lv_istore (lv' := [(5, .int q76.1), (0, .ref (ad 2)), (3, .int x3), (4, .int x4)]) hx hb dX8_hypothesis_79 hl (by decide) rfl (fun ls hl => ?_)
    refine lv_iload hx hb dX8_hypothesis_81 (lv_at hl 0 rfl) ?_
    obtain ⟨q83, h83, hf⟩ := bind_some hf
    refine krX8_57_X8_isDigit F K E hA Z h83 ⟨Nat.le_of_ble_eq_true rfl, Nat.le_of_ble_eq_true rfl⟩ hl.1 (Nat.le_of_ble_eq_true rfl) dX8_hypothesis_83 (fun H locs Z => ?_)
    refine lv_if_ne (tgt := 91) hx hb dX8_hypothesis_86 (by decide) (fun c86 => ?_) (fun c86 => ?_)
    · have hf := if_f c86 hf
      refine lv_iload_n hx hb dX8_hypothesis_91 rfl (lv_at hl 2 rfl) ?_
      refine lv_bipush (v := 10) hx hb dX8_hypothesis_92 (by decide) ?_
      refine lv_imul hx hb dX8_hypothesis_94 ?_
      refine lv_iload hx hb dX8_hypothesis_95 (lv_at hl 0 rfl) ?_
      refine lv_iadd hx hb dX8_hypothesis_97 ?_
      refine lv_bipush (v := 48) hx hb dX8_hypothesis_98 (by decide) ?_
      refine lv_isub hx hb dX8_hypothesis_100 ?_
      refine lv_istore_n (lv' := [(3, .int (((x3 * (10 : Int32)) + q76.1) - (48 : Int32))), (5, .int q76.1), (0, .ref (ad 2)), (4, .int x4)]) hx hb dX8_hypothesis_101 rfl hl (by decide) rfl (fun ls hl => ?_)
      refine lv_iinc (v := (x4 + (1 : Int32))) (lv' := [(4, .int (x4 + (1 : Int32))), (3, .int (((x3 * (10 : Int32)) + q76.1) - (48 : Int32))), (5, .int q76.1), (0, .ref (ad 2))]) hx hb dX8_hypothesis_102 hl (k := 3) rfl (congrArg (fun z => x4 + z) (by decide)) (by decide) rfl (fun ls hl => ?_)
      refine lv_goto (tgt := 64) hx hb dX8_hypothesis_105 (by decide) ?_
      exact ih _ _ _ hf _ _ _ Z (lv_sub hl [3, 1, 0] rfl)
    have hf := if_t c86 hf
    refine lv_iconst (v := -1) hx hb dX8_hypothesis_89 (by decide) ?_
    have hf := Option.some.inj hf
    subst hf
    exact ret_i F hr hk Z dX8_hypothesis_90
set_option maxRecDepth 100000 in
set_option maxHeartbeats 4000000 in
theorem b_X8_hypothesis_54 {p : Program} {l : Launch} {e : Env} {s : State} {m : MethodId} {args : Array Value} {below : List Frame} {meth : Method} {c : Code} {D : va_G} {A : Nat → Prop} {ad : Nat → Nat} {cy : Nat → ClassId} {ee : EE} {n : Nat} {res : (Int32 × StT)} (F : CallFix p m c cX8_hypothesis 6 s args (Cond.code yX8_hypothesis cX8_hypothesis 6 (some .int) :: Gw) yX8_hypothesis.cls) (hr : meth.sig.returnType = (some .int)) (hk : meth.locks = false) (K : va_K D vwCl (tyL cy) s) (E : EV ee A s s.heap) (hA : ∀ q, s.heap.size ≤ q → A q) : ∀ (st : StT), f_X8_hypothesis_54 n st = some res → ∀ (H : Heap) (locs : List Loc) (ls : Array Slot), ZG D (wC ad cy st) A s H locs → lv_has ls 6 [(0, .ref (ad 2))] → W p l e { frames := 1, cells := 0, slots := 0, locals := 21 } s m args below meth c H locs 0 0 (MQ below (QC D (some (.int res.1)) (wC ad cy res.2) A) args s 0 0 A) (F0 m 54 ls []) := by
  have hx := F.1
  have hb := F.2.1
  intro st hf H locs ls Z hl
  unfold f_X8_hypothesis_54 at hf
  refine lv_iconst (v := 0) hx hb dX8_hypothesis_54 (by decide) ?_
  refine lv_istore_n (lv' := [(3, .int (0 : Int32)), (0, .ref (ad 2))]) hx hb dX8_hypothesis_55 rfl hl (by decide) rfl (fun ls hl => ?_)
  refine lv_aload_n hx hb dX8_hypothesis_56 rfl (lv_at hl 1 rfl) ?_
  refine grX8_29_2 F K Z dX8_hypothesis_57 ?_
  refine lv_iconst (v := 1) hx hb dX8_hypothesis_60 (by decide) ?_
  refine lv_iadd hx hb dX8_hypothesis_61 ?_
  refine lv_istore (lv' := [(4, .int ((st.1 4) + (1 : Int32))), (3, .int (0 : Int32)), (0, .ref (ad 2))]) hx hb dX8_hypothesis_62 hl (by decide) rfl (fun ls hl => ?_)
  exact b_X8_hypothesis_64 F hr hk K E hA _ _ _ _ hf _ _ _ Z (lv_sub hl [2, 1, 0] rfl)
set_option maxRecDepth 100000 in
set_option maxHeartbeats 4000000 in
theorem c_X8_hypothesis {l : Launch} {D : va_G} {ad : Nat → Nat} {cy : Nat → ClassId} {ee : EE} {n : Nat} {st : StT} {res : (Int32 × StT)} (hf : f_X8_hypothesis n st = some res) : CT l yX8_hypothesis cX8_hypothesis 6 (some .int) 1 21 D cy ee (wC ad cy st) (wC ad cy res.2) [.ref (ad 2)] (some (.int res.1)) := by
  refine CT.of (by decide +kernel) (Nat.le_of_ble_eq_true rfl) ?_
  intro p e s m args below meth c A F hr hk K E hA Z ls hl
  have hl : lv_has ls 6 [(0, .ref (ad 2))] := hl
  have hx := F.1
  have hb := F.2.1
  unfold f_X8_hypothesis at hf
  refine lv_aload_n hx hb dX8_hypothesis_0 rfl (lv_at hl 0 rfl) ?_
  refine grX8_26_2 F K Z dX8_hypothesis_1 ?_
  refine lv_aload_n hx hb dX8_hypothesis_4 rfl (lv_at hl 0 rfl) ?_
  refine grX8_29_2 F K Z dX8_hypothesis_5 ?_
  refine lv_isub hx hb dX8_hypothesis_8 ?_
  refine lv_iconst (v := 1) hx hb dX8_hypothesis_9 (by decide) ?_
  refine lv_isub hx hb dX8_hypothesis_10 ?_
  refine lv_istore_n (lv' := [(1, .int (((st.1 5) - (st.1 4)) - (1 : Int32))), (0, .ref (ad 2))]) hx hb dX8_hypothesis_11 rfl hl (by decide) rfl (fun ls hl => ?_)
  refine lv_aload_n hx hb dX8_hypothesis_12 rfl (lv_at hl 1 rfl) ?_
  refine lv_aload_n hx hb dX8_hypothesis_13 rfl (lv_at hl 1 rfl) ?_
  refine grX8_29_2 F K Z dX8_hypothesis_14 ?_
  refine lv_iconst (v := 1) hx hb dX8_hypothesis_17 (by decide) ?_
  refine lv_iadd hx hb dX8_hypothesis_18 ?_
  obtain ⟨q19, h19, hf⟩ := bind_some hf
  refine krX8_32_X8_byteAt F K E hA Z h19 ⟨Nat.le_of_ble_eq_true rfl, Nat.le_of_ble_eq_true rfl⟩ hl.1 (Nat.le_of_ble_eq_true rfl) dX8_hypothesis_19 (fun H locs Z => ?_)
  refine lv_istore_n (lv' := [(2, .int q19.1), (1, .int (((st.1 5) - (st.1 4)) - (1 : Int32))), (0, .ref (ad 2))]) hx hb dX8_hypothesis_22 rfl hl (by decide) rfl (fun ls hl => ?_)
  refine lv_aload_n hx hb dX8_hypothesis_23 rfl (lv_at hl 2 rfl) ?_
  refine lv_aload_n hx hb dX8_hypothesis_24 rfl (lv_at hl 2 rfl) ?_
  refine grX8_29_2 F K Z dX8_hypothesis_25 ?_
  obtain ⟨q28, h28, hf⟩ := bind_some hf
  refine krX8_32_X8_byteAt F K E hA Z h28 ⟨Nat.le_of_ble_eq_true rfl, Nat.le_of_ble_eq_true rfl⟩ hl.1 (Nat.le_of_ble_eq_true rfl) dX8_hypothesis_28 (fun H locs Z => ?_)
  refine lv_bipush (v := 104) hx hb dX8_hypothesis_31 (by decide) ?_
  refine lv_icmp_ne (tgt := 52) hx hb dX8_hypothesis_33 (by decide) (fun c33 => ?_) (fun c33 => ?_)
  · have hf := if_f c33 hf
    refine lv_iconst (v := -1) hx hb dX8_hypothesis_52 (by decide) ?_
    have hf := Option.some.inj hf
    subst hf
    exact ret_i F hr hk Z dX8_hypothesis_53
  have hf := if_t c33 hf
  refine lv_iload_n hx hb dX8_hypothesis_36 rfl (lv_at hl 1 rfl) ?_
  refine lv_iconst (v := 1) hx hb dX8_hypothesis_37 (by decide) ?_
  refine lv_icmp_lt (tgt := 52) hx hb dX8_hypothesis_38 (by decide) (fun c38 => ?_) (fun c38 => ?_)
  · have hf := if_t c38 hf
    refine lv_iconst (v := -1) hx hb dX8_hypothesis_52 (by decide) ?_
    have hf := Option.some.inj hf
    subst hf
    exact ret_i F hr hk Z dX8_hypothesis_53
  have hf := if_f c38 hf
  refine lv_iload_n hx hb dX8_hypothesis_41 rfl (lv_at hl 0 rfl) ?_
  refine lv_bipush (v := 48) hx hb dX8_hypothesis_42 (by decide) ?_
  refine lv_icmp_ne (tgt := 54) hx hb dX8_hypothesis_44 (by decide) (fun c44 => ?_) (fun c44 => ?_)
  · have hf := if_f c44 hf
    exact b_X8_hypothesis_54 F hr hk K E hA _ hf _ _ _ Z (lv_sub hl [2] rfl)
  have hf := if_t c44 hf
  refine lv_iload_n hx hb dX8_hypothesis_47 rfl (lv_at hl 1 rfl) ?_
  refine lv_iconst (v := 1) hx hb dX8_hypothesis_48 (by decide) ?_
  refine lv_icmp_le (tgt := 54) hx hb dX8_hypothesis_49 (by decide) (fun c49 => ?_) (fun c49 => ?_)
  · have hf := if_t c49 hf
    exact b_X8_hypothesis_54 F hr hk K E hA _ hf _ _ _ Z (lv_sub hl [2] rfl)
  have hf := if_f c49 hf
  refine lv_iconst (v := -1) hx hb dX8_hypothesis_52 (by decide) ?_
  have hf := Option.some.inj hf
  subst hf
  exact ret_i F hr hk Z dX8_hypothesis_53
