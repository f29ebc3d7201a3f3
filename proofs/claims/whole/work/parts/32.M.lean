def f_X12_put (n : Nat) (st : StT) (x1 : Int32) : Option StT := if (8100 : Int32) ≤ (st.1 15) then (some st) else (if inB (st.1 15) 8100 = true then (some (uF (uA st 8 (st.1 15) (vp_nar .byte x1.toInt8.toInt32)) 15 (((uA st 8 (st.1 15) (vp_nar .byte x1.toInt8.toInt32)).1 15) + (1 : Int32)))) else none)
theorem wd1204 : Cond.fieldLink RX12 404 "WorldProverModel" "draftSize" "I" ∈ Gw := gT6 (List.mem_of_getElem? (i := 82) rfl) rfl
theorem wd1205 : Cond.fieldLink RX12 39 "WorldProverModel" "draft" "[B" ∈ Gw := gT6 (List.mem_of_getElem? (i := 81) rfl) rfl
section
variable {p : Program} {l : Launch} {e : Env} {R : Room} {s : State} {m : MethodId} {args : Array Value} {below : List Frame} {meth : Method} {c : Code} {H : Heap} {locs : List Loc} {Q : State → Prop}
variable {cc : ByteArray} {nL pc : Nat} {ls : Array Slot} {rest : List Value} {D : va_G} {A : Nat → Prop} {cw : Cond} {ad : Nat → Nat} {cy : Nat → ClassId} {ee : EE} {st : StT} {own : String}
theorem gmX12_404 (F : CallFix p m c cc nL s args (cw :: Gw) RX12) (K : va_K D vwCl (tyL cy) s) (Z : ZG D (wM ad cy st) A s H locs) (hd : decode cc pc = .ok (.getfield 404, 3)) (kk : W p l e R s m args below meth c H locs 0 0 Q (F0 m (pc + 3) ls (.int (st.1 15) :: rest))) : W p l e R s m args below meth c H locs 0 0 Q (F0 m pc ls (.ref (ad 0) :: rest)) :=
  va_get (D := D) (ci := 12) (C := RX12) (T := TX12) (N := 98) F.1 F.2.1 F.2.2.2.2 (fun w h => List.mem_cons_of_mem _ (inG_X12 w h)) F.2.2.2.1 K Z.1 0 rfl rfl 24 (by decide) (F.2.2.2.2 _ (List.mem_cons_of_mem _ wd1204)) (fun _ h => h) rfl hd kk
theorem gmX12_39 (F : CallFix p m c cc nL s args (cw :: Gw) RX12) (K : va_K D vwCl (tyL cy) s) (Z : ZG D (wM ad cy st) A s H locs) (hd : decode cc pc = .ok (.getfield 39, 3)) (kk : W p l e R s m args below meth c H locs 0 0 Q (F0 m (pc + 3) ls (.ref (ad 9) :: rest))) : W p l e R s m args below meth c H locs 0 0 Q (F0 m pc ls (.ref (ad 0) :: rest)) :=
  va_get (D := D) (ci := 12) (C := RX12) (T := TX12) (N := 98) F.1 F.2.1 F.2.2.2.2 (fun w h => List.mem_cons_of_mem _ (inG_X12 w h)) F.2.2.2.1 K Z.1 0 rfl rfl 23 (by decide) (F.2.2.2.2 _ (List.mem_cons_of_mem _ wd1205)) (fun _ h => h) rfl hd kk
theorem ms9 {i : Int32} {v : Int32} (F : CallFix p m c cc nL s args (cw :: Gw) own) (K : va_K D vwCl (tyL cy) s) (Z : ZG D (wM ad cy st) A s H locs) (hi : inB i 8100 = true) (hd : decode cc pc = .ok (.bastore, 1)) (kk : ∀ (H1 : Heap) (locs1 : List Loc), ZG D (wM ad cy (uA st 8 i (vp_nar .byte v))) A s H1 locs1 → W p l e R s m args below meth c H1 locs1 0 0 Q (F0 m (pc + 1) ls rest)) : W p l e R s m args below meth c H locs 0 0 Q (F0 m pc ls (.int v :: .int i :: .ref (ad 9) :: rest)) :=
  va_bast F.1 F.2.1 K Z.1 Z.2.1 Z.2.2 9 0 rfl rfl (inB_vp hi) hd (fun H1 locs1 hP hD hS => kk H1 locs1 ⟨hP, hD, hS⟩)
theorem pmX12_404 {v : Int32} (F : CallFix p m c cc nL s args (cw :: Gw) RX12) (K : va_K D vwCl (tyL cy) s) (Z : ZG D (wM ad cy st) A s H locs) (hd : decode cc pc = .ok (.putfield 404, 3)) (kk : ∀ (H1 : Heap) (locs1 : List Loc), ZG D (wM ad cy (uF st 15 v)) A s H1 locs1 → W p l e R s m args below meth c H1 locs1 0 0 Q (F0 m (pc + 3) ls rest)) : W p l e R s m args below meth c H locs 0 0 Q (F0 m pc ls (.int v :: .ref (ad 0) :: rest)) :=
  va_put (D := D) (ci := 12) (v := .int v) (ty := .int) (C := RX12) (T := TX12) (N := 98) F.1 F.2.1 F.2.2.2.2 (fun w h => List.mem_cons_of_mem _ (inG_X12 w h)) tyX12 tyX12_ok nmX12 F.2.2.2.1 K Z.1 Z.2.1 Z.2.2 0 rfl rfl 24 (by decide) (F.2.2.2.2 _ (List.mem_cons_of_mem _ wd1204)) (fun _ h => h) rfl (by decide +kernel) rfl rfl (Nat.le_of_ble_eq_true rfl) hd (fun H1 locs1 hP hD hS => kk H1 locs1 ⟨hP, hD, hS⟩)
end
set_option maxRecDepth 100000 in
set_option maxHeartbeats 4000000 in
theorem c_X12_put {l : Launch} {D : va_G} {ad : Nat → Nat} {cy : Nat → ClassId} {ee : EE} {n : Nat} {st : StT} {x1 : Int32} {res : StT} (hf : f_X12_put n st x1 = some res) : CT l yX12_put cX12_put 2 none 0 0 D cy ee (wM ad cy st) (wM ad cy res) [.ref (ad 0), .int x1] (none) := by
  refine CT.of (by decide +kernel) (Nat.le_of_ble_eq_true rfl) ?_
  intro p e s m args below meth c A F hr hk K E hA Z ls hl
  have hl : lv_has ls 2 [(0, .ref (ad 0)), (1, .int x1)] := hl
  have hx := F.1
  have hb := F.2.1
  unfold f_X12_put at hf
  refine lv_aload_n hx hb dX12_put_0 rfl (lv_at hl 0 rfl) ?_
  refine gmX12_404 F K Z dX12_put_1 ?_
  refine lv_sipush (v := 8100) hx hb dX12_put_4 (by decide) ?_
  refine lv_icmp_ge (tgt := 31) hx hb dX12_put_7 (by decide) (fun c7 => ?_) (fun c7 => ?_)
  · have hf := if_t c7 hf
    have hf := Option.some.inj hf
    subst hf
    exact ret_v F hr hk Z dX12_put_31
  have hf := if_f c7 hf
  refine lv_aload_n hx hb dX12_put_10 rfl (lv_at hl 0 rfl) ?_
  refine gmX12_39 F K Z dX12_put_11 ?_
  refine lv_aload_n hx hb dX12_put_14 rfl (lv_at hl 0 rfl) ?_
  refine gmX12_404 F K Z dX12_put_15 ?_
  refine lv_iload_n hx hb dX12_put_18 rfl (lv_at hl 1 rfl) ?_
  refine lv_i2b hx hb dX12_put_19 rfl ?_
  obtain ⟨i20, hf⟩ := if_some hf
  refine ms9 F K Z i20 dX12_put_20 (fun H locs Z => ?_)
  refine lv_aload_n hx hb dX12_put_21 rfl (lv_at hl 0 rfl) ?_
  refine lv_dup hx hb dX12_put_22 rfl ?_
  refine gmX12_404 F K Z dX12_put_23 ?_
  refine lv_iconst (v := 1) hx hb dX12_put_26 (by decide) ?_
  refine lv_iadd hx hb dX12_put_27 ?_
  refine pmX12_404 F K Z dX12_put_28 (fun H locs Z => ?_)
  have hf := Option.some.inj hf
  subst hf
  exact ret_v F hr hk Z dX12_put_31
def f_X12_putNumber_18 (n : Nat) : Nat → StT → Int32 → Int32 → Option StT
  | 0, _, _, _ => none
  | k + 1, st, x1, x2 => if x2 ≤ 0 then (some st) else (if x2 = 0 then none else ((f_X12_put n st ((48 : Int32) + ((x1 / x2) - (x1 / x2) / (10 : Int32) * (10 : Int32)))).bind fun q32 => (f_X12_putNumber_18 n k q32 x1 (x2 / (10 : Int32)))))
def f_X12_putNumber_2 (n : Nat) : Nat → StT → Int32 → Int32 → Option StT
  | 0, _, _, _ => none
  | k + 1, st, x1, x2 => if x2 = 0 then none else (if (x1 / x2) < (10 : Int32) then (f_X12_putNumber_18 n n st x1 x2) else (f_X12_putNumber_2 n k st x1 (x2 * (10 : Int32))))
def f_X12_putNumber (n : Nat) (st : StT) (x1 : Int32) : Option StT := f_X12_putNumber_2 n n st x1 (1 : Int32)
theorem wd1206 : Cond.methodLink RX12 407 yX12_put ∈ Gw := gT7 (List.mem_of_getElem? (i := 126) rfl) rfl
theorem wd1207 : Cond.code yX12_put prog_14_method_43_code 2 none ∈ Gw := gT7 (List.mem_of_getElem? (i := 129) rfl) rfl
theorem wd1208 : Cond.instanceMethod yX12_put ∈ Gw := gT7 (List.mem_of_getElem? (i := 128) rfl) rfl
theorem wd1209 : Cond.selects RX12 yX12_put yX12_put ∈ Gw := gP5 (q := (yX12_put, 98)) (List.mem_of_getElem? (i := 7) rfl)
section
variable {p : Program} {l : Launch} {e : Env} {R : Room} {s : State} {m : MethodId} {args : Array Value} {below : List Frame} {meth : Method} {c : Code} {H : Heap} {locs : List Loc} {Q : State → Prop}
variable {cc : ByteArray} {nL pc : Nat} {ls : Array Slot} {rest : List Value} {D : va_G} {A : Nat → Prop} {cw : Cond} {ad : Nat → Nat} {cy : Nat → ClassId} {ee : EE} {st : StT} {own : String}
theorem krX12_407_X12_put {n : Nat} {a0 : Int32} {q : StT} (F : CallFix p m c cc nL s args (cw :: Gw) RX12) (K : va_K D vwCl (tyL cy) s) (E : EV ee A s s.heap) (hA : ∀ q, s.heap.size ≤ q → A q) (Z : ZG D (wM ad cy st) A s H locs) (hf : f_X12_put n st a0 = some q) (hR : 1 ≤ R.frames ∧ 21 ≤ R.locals) (hl : ls.size = nL) (hst : (rest.map fun v => v.category).sum ≤ 8) (hd : decode cc pc = .ok (.invokevirtual 407, 3)) (kk : ∀ (H1 : Heap) (locs1 : List Loc), ZG D (wM ad cy q) A s H1 locs1 → W p l e R s m args below meth c H1 locs1 0 0 Q (F0 m (pc + 3) ls (rest))) : W p l e R s m args below meth c H locs 0 0 Q (F0 m pc ls (.int a0 :: .ref (ad 0) :: rest)) :=
  call_V (q := (RX12, TX12, 98)) (n := 1) (As := [.int a0]) (rv := none) 0 12 F K E hA Z (c_X12_put (l := l) (D := D) (ad := ad) (cy := cy) (ee := ee) hf) ⟨wd1207, wd1206, wd1208, wd1209, wd1008⟩ (by decide +kernel) rfl rfl hR rfl hl hst hd kk
end
set_option maxRecDepth 100000 in
set_option maxHeartbeats 4000000 in
theorem b_X12_putNumber_18 {p : Program} {l : Launch} {e : Env} {s : State} {m : MethodId} {args : Array Value} {below : List Frame} {meth : Method} {c : Code} {D : va_G} {A : Nat → Prop} {ad : Nat → Nat} {cy : Nat → ClassId} {ee : EE} {n : Nat} {res : StT} (F : CallFix p m c cX12_putNumber 3 s args (Cond.code yX12_putNumber cX12_putNumber 3 none :: Gw) yX12_putNumber.cls) (hr : meth.sig.returnType = none) (hk : meth.locks = false) (K : va_K D vwCl (tyL cy) s) (E : EV ee A s s.heap) (hA : ∀ q, s.heap.size ≤ q → A q) : ∀ (k : Nat) (st : StT) (x1 : Int32) (x2 : Int32), f_X12_putNumber_18 n k st x1 x2 = some res → ∀ (H : Heap) (locs : List Loc) (ls : Array Slot), ZG D (wM ad cy st) A s H locs → lv_has ls 3 [(0, .ref (ad 0)), (1, .int x1), (2, .int x2)] → W p l e { frames := 1, cells := 0, slots := 0, locals := 21 } s m args below meth c H locs 0 0 (MQ below (QC D (none) (wM ad cy res) A) args s 0 0 A) (F0 m 18 ls []) := by
  have hx := F.1
  have hb := F.2.1
  intro k
  induction k with
  | zero =>
    intro st x1 x2 hf
    exact absurd hf (by simp [f_X12_putNumber_18])
  | succ k ih =>
    intro st x1 x2 hf H locs ls Z hl
    rw [f_X12_putNumber_18] at hf
    refine lv_iload_n hx hb dX12_putNumber_18 rfl (lv_at hl 2 rfl) ?_
    refine lv_if_le (tgt := 43) hx hb dX12_putNumber_19 (by decide) (fun c19 => ?_) (fun c19 => ?_)
    · have hf := if_t c19 hf
      have hf := Option.some.inj hf
      subst hf
      exact ret_v F hr hk Z dX12_putNumber_43
    have hf := if_f c19 hf
    refine lv_aload_n hx hb dX12_putNumber_22 rfl (lv_at hl 0 rfl) ?_
    refine lv_bipush (v := 48) hx hb dX12_putNumber_23 (by decide) ?_
    refine lv_iload_n hx hb dX12_putNumber_25 rfl (lv_at hl 1 rfl) ?_
    refine lv_iload_n hx hb dX12_putNumber_26 rfl (lv_at hl 2 rfl) ?_
    obtain ⟨c27, hf⟩ := if_no hf
    refine lv_idiv hx hb dX12_putNumber_27 c27 ?_
    refine lv_bipush (v := 10) hx hb dX12_putNumber_28 (by decide) ?_
    refine lv_irem hx hb dX12_putNumber_30 (by decide) ?_
    refine lv_iadd hx hb dX12_putNumber_31 ?_
    obtain ⟨q32, h32, hf⟩ := bind_some hf
    refine krX12_407_X12_put F K E hA Z h32 ⟨Nat.le_of_ble_eq_true rfl, Nat.le_of_ble_eq_true rfl⟩ hl.1 (Nat.le_of_ble_eq_true rfl) dX12_putNumber_32 (fun H locs Z => ?_)
    refine lv_iload_n hx hb dX12_putNumber_35 rfl (lv_at hl 2 rfl) ?_
    refine lv_bipush (v := 10) hx hb dX12_putNumber_36 (by decide) ?_
    refine lv_idiv hx hb dX12_putNumber_38 (by decide) ?_
    refine lv_istore_n (lv' := [(2, .int (x2 / (10 : Int32))), (0, .ref (ad 0)), (1, .int x1)]) hx hb dX12_putNumber_39 rfl hl (by decide) rfl (fun ls hl => ?_)
    refine lv_goto (tgt := 18) hx hb dX12_putNumber_40 (by decide) ?_
    exact ih _ _ _ hf _ _ _ Z (lv_sub hl [1, 2, 0] rfl)
set_option maxRecDepth 100000 in
set_option maxHeartbeats 4000000 in
theorem b_X12_putNumber_2 {p : Program} {l : Launch} {e : Env} {s : State} {m : MethodId} {args : Array Value} {below : List Frame} {meth : Method} {c : Code} {D : va_G} {A : Nat → Prop} {ad : Nat → Nat} {cy : Nat → ClassId} {ee : EE} {n : Nat} {res : StT} (F : CallFix p m c cX12_putNumber 3 s args (Cond.code yX12_putNumber cX12_putNumber 3 none :: Gw) yX12_putNumber.cls) (hr : meth.sig.returnType = none) (hk : meth.locks = false) (K : va_K D vwCl (tyL cy) s) (E : EV ee A s s.heap) (hA : ∀ q, s.heap.size ≤ q → A q) : ∀ (k : Nat) (st : StT) (x1 : Int32) (x2 : Int32), f_X12_putNumber_2 n k st x1 x2 = some res → ∀ (H : Heap) (locs : List Loc) (ls : Array Slot), ZG D (wM ad cy st) A s H locs → lv_has ls 3 [(0, .ref (ad 0)), (1, .int x1), (2, .int x2)] → W p l e { frames := 1, cells := 0, slots := 0, locals := 21 } s m args below meth c H locs 0 0 (MQ below (QC D (none) (wM ad cy res) A) args s 0 0 A) (F0 m 2 ls []) := by
  have hx := F.1
  have hb := F.2.1
  intro k
  induction k with
  | zero =>
    intro st x1 x2 hf
    exact absurd hf (by simp [f_X12_putNumber_2])
  | succ k ih =>
    intro st x1 x2 hf H locs ls Z hl
    rw [f_X12_putNumber_2] at hf
    refine lv_iload_n hx hb dX12_putNumber_2 rfl (lv_at hl 1 rfl) ?_
    refine lv_iload_n hx hb dX12_putNumber_3 rfl (lv_at hl 2 rfl) ?_
    obtain ⟨c4, hf⟩ := if_no hf
    refine lv_idiv hx hb dX12_putNumber_4 c4 ?_
    refine lv_bipush (v := 10) hx hb dX12_putNumber_5 (by decide) ?_
    refine lv_icmp_lt (tgt := 18) hx hb dX12_putNumber_7 (by decide) (fun c7 => ?_) (fun c7 => ?_)
    · have hf := if_t c7 hf
      exact b_X12_putNumber_18 F hr hk K E hA _ _ _ _ hf _ _ _ Z hl
    have hf := if_f c7 hf
    refine lv_iload_n hx hb dX12_putNumber_10 rfl (lv_at hl 2 rfl) ?_
    refine lv_bipush (v := 10) hx hb dX12_putNumber_11 (by decide) ?_
    refine lv_imul hx hb dX12_putNumber_13 ?_
    refine lv_istore_n (lv' := [(2, .int (x2 * (10 : Int32))), (0, .ref (ad 0)), (1, .int x1)]) hx hb dX12_putNumber_14 rfl hl (by decide) rfl (fun ls hl => ?_)
    refine lv_goto (tgt := 2) hx hb dX12_putNumber_15 (by decide) ?_
    exact ih _ _ _ hf _ _ _ Z (lv_sub hl [1, 2, 0] rfl)
set_option maxRecDepth 100000 in
set_option maxHeartbeats 4000000 in
theorem c_X12_putNumber {l : Launch} {D : va_G} {ad : Nat → Nat} {cy : Nat → ClassId} {ee : EE} {n : Nat} {st : StT} {x1 : Int32} {res : StT} (hf : f_X12_putNumber n st x1 = some res) : CT l yX12_putNumber cX12_putNumber 3 none 1 21 D cy ee (wM ad cy st) (wM ad cy res) [.ref (ad 0), .int x1] (none) := by
  refine CT.of (by decide +kernel) (Nat.le_of_ble_eq_true rfl) ?_
  intro p e s m args below meth c A F hr hk K E hA Z ls hl
  have hl : lv_has ls 3 [(0, .ref (ad 0)), (1, .int x1)] := hl
  have hx := F.1
  have hb := F.2.1
  unfold f_X12_putNumber at hf
  refine lv_iconst (v := 1) hx hb dX12_putNumber_0 (by decide) ?_
  refine lv_istore_n (lv' := [(2, .int (1 : Int32)), (0, .ref (ad 0)), (1, .int x1)]) hx hb dX12_putNumber_1 rfl hl (by decide) rfl (fun ls hl => ?_)
  exact b_X12_putNumber_2 F hr hk K E hA _ _ _ _ hf _ _ _ Z (lv_sub hl [1, 2, 0] rfl)
def f_X12_push (n : Nat) (st : StT) (x1 : Int32) (x2 : Int32) (x3 : Int32) (x4 : Int32) : Option StT := if inB (st.1 31) 30000 = true then (if inB ((uA st 33 (st.1 31) x1).1 31) 30000 = true then (if inB ((uA (uA st 33 (st.1 31) x1) 34 ((uA st 33 (st.1 31) x1).1 31) x2).1 31) 30000 = true then (if inB ((uA (uA (uA st 33 (st.1 31) x1) 34 ((uA st 33 (st.1 31) x1).1 31) x2) 35 ((uA (uA st 33 (st.1 31) x1) 34 ((uA st 33 (st.1 31) x1).1 31) x2).1 31) x3).1 31) 30000 = true then (some (uF (uA (uA (uA (uA st 33 (st.1 31) x1) 34 ((uA st 33 (st.1 31) x1).1 31) x2) 35 ((uA (uA st 33 (st.1 31) x1) 34 ((uA st 33 (st.1 31) x1).1 31) x2).1 31) x3) 36 ((uA (uA (uA st 33 (st.1 31) x1) 34 ((uA st 33 (st.1 31) x1).1 31) x2) 35 ((uA (uA st 33 (st.1 31) x1) 34 ((uA st 33 (st.1 31) x1).1 31) x2).1 31) x3).1 31) x4) 31 (((uA (uA (uA (uA st 33 (st.1 31) x1) 34 ((uA st 33 (st.1 31) x1).1 31) x2) 35 ((uA (uA st 33 (st.1 31) x1) 34 ((uA st 33 (st.1 31) x1).1 31) x2).1 31) x3) 36 ((uA (uA (uA st 33 (st.1 31) x1) 34 ((uA st 33 (st.1 31) x1).1 31) x2) 35 ((uA (uA st 33 (st.1 31) x1) 34 ((uA st 33 (st.1 31) x1).1 31) x2).1 31) x3).1 31) x4).1 31) + (1 : Int32)))) else none) else none) else none) else none
theorem wd1210 : Cond.fieldLink RX12 118 "WorldProverModel" "pileKind" "[I" ∈ Gw := gT6 (List.mem_of_getElem? (i := 122) rfl) rfl
theorem wd1211 : Cond.fieldLink RX12 411 "WorldProverModel" "piled" "I" ∈ Gw := gT6 (List.mem_of_getElem? (i := 126) rfl) rfl
theorem wd1212 : Cond.fieldLink RX12 121 "WorldProverModel" "pileWhat" "[I" ∈ Gw := gT6 (List.mem_of_getElem? (i := 123) rfl) rfl
theorem wd1213 : Cond.fieldLink RX12 124 "WorldProverModel" "pileChain" "[I" ∈ Gw := gT6 (List.mem_of_getElem? (i := 124) rfl) rfl
theorem wd1214 : Cond.fieldLink RX12 127 "WorldProverModel" "pileDepth" "[I" ∈ Gw := gT6 (List.mem_of_getElem? (i := 125) rfl) rfl
section
variable {p : Program} {l : Launch} {e : Env} {R : Room} {s : State} {m : MethodId} {args : Array Value} {below : List Frame} {meth : Method} {c : Code} {H : Heap} {locs : List Loc} {Q : State → Prop}
variable {cc : ByteArray} {nL pc : Nat} {ls : Array Slot} {rest : List Value} {D : va_G} {A : Nat → Prop} {cw : Cond} {ad : Nat → Nat} {cy : Nat → ClassId} {ee : EE} {st : StT} {own : String}
theorem gmX12_118 (F : CallFix p m c cc nL s args (cw :: Gw) RX12) (K : va_K D vwCl (tyL cy) s) (Z : ZG D (wM ad cy st) A s H locs) (hd : decode cc pc = .ok (.getfield 118, 3)) (kk : W p l e R s m args below meth c H locs 0 0 Q (F0 m (pc + 3) ls (.ref (ad 34) :: rest))) : W p l e R s m args below meth c H locs 0 0 Q (F0 m pc ls (.ref (ad 0) :: rest)) :=
  va_get (D := D) (ci := 12) (C := RX12) (T := TX12) (N := 98) F.1 F.2.1 F.2.2.2.2 (fun w h => List.mem_cons_of_mem _ (inG_X12 w h)) F.2.2.2.1 K Z.1 0 rfl rfl 64 (by decide) (F.2.2.2.2 _ (List.mem_cons_of_mem _ wd1210)) (fun _ h => h) rfl hd kk
theorem gmX12_411 (F : CallFix p m c cc nL s args (cw :: Gw) RX12) (K : va_K D vwCl (tyL cy) s) (Z : ZG D (wM ad cy st) A s H locs) (hd : decode cc pc = .ok (.getfield 411, 3)) (kk : W p l e R s m args below meth c H locs 0 0 Q (F0 m (pc + 3) ls (.int (st.1 31) :: rest))) : W p l e R s m args below meth c H locs 0 0 Q (F0 m pc ls (.ref (ad 0) :: rest)) :=
  va_get (D := D) (ci := 12) (C := RX12) (T := TX12) (N := 98) F.1 F.2.1 F.2.2.2.2 (fun w h => List.mem_cons_of_mem _ (inG_X12 w h)) F.2.2.2.1 K Z.1 0 rfl rfl 68 (by decide) (F.2.2.2.2 _ (List.mem_cons_of_mem _ wd1211)) (fun _ h => h) rfl hd kk
theorem ms34 {i : Int32} {v : Int32} (F : CallFix p m c cc nL s args (cw :: Gw) own) (K : va_K D vwCl (tyL cy) s) (Z : ZG D (wM ad cy st) A s H locs) (hi : inB i 30000 = true) (hd : decode cc pc = .ok (.iastore, 1)) (kk : ∀ (H1 : Heap) (locs1 : List Loc), ZG D (wM ad cy (uA st 33 i v)) A s H1 locs1 → W p l e R s m args below meth c H1 locs1 0 0 Q (F0 m (pc + 1) ls rest)) : W p l e R s m args below meth c H locs 0 0 Q (F0 m pc ls (.int v :: .int i :: .ref (ad 34) :: rest)) :=
  va_iast F.1 F.2.1 K Z.1 Z.2.1 Z.2.2 34 1 rfl rfl (inB_vp hi) hd (fun H1 locs1 hP hD hS => kk H1 locs1 ⟨hP, hD, hS⟩)
theorem gmX12_121 (F : CallFix p m c cc nL s args (cw :: Gw) RX12) (K : va_K D vwCl (tyL cy) s) (Z : ZG D (wM ad cy st) A s H locs) (hd : decode cc pc = .ok (.getfield 121, 3)) (kk : W p l e R s m args below meth c H locs 0 0 Q (F0 m (pc + 3) ls (.ref (ad 35) :: rest))) : W p l e R s m args below meth c H locs 0 0 Q (F0 m pc ls (.ref (ad 0) :: rest)) :=
  va_get (D := D) (ci := 12) (C := RX12) (T := TX12) (N := 98) F.1 F.2.1 F.2.2.2.2 (fun w h => List.mem_cons_of_mem _ (inG_X12 w h)) F.2.2.2.1 K Z.1 0 rfl rfl 65 (by decide) (F.2.2.2.2 _ (List.mem_cons_of_mem _ wd1212)) (fun _ h => h) rfl hd kk
theorem ms35 {i : Int32} {v : Int32} (F : CallFix p m c cc nL s args (cw :: Gw) own) (K : va_K D vwCl (tyL cy) s) (Z : ZG D (wM ad cy st) A s H locs) (hi : inB i 30000 = true) (hd : decode cc pc = .ok (.iastore, 1)) (kk : ∀ (H1 : Heap) (locs1 : List Loc), ZG D (wM ad cy (uA st 34 i v)) A s H1 locs1 → W p l e R s m args below meth c H1 locs1 0 0 Q (F0 m (pc + 1) ls rest)) : W p l e R s m args below meth c H locs 0 0 Q (F0 m pc ls (.int v :: .int i :: .ref (ad 35) :: rest)) :=
  va_iast F.1 F.2.1 K Z.1 Z.2.1 Z.2.2 35 1 rfl rfl (inB_vp hi) hd (fun H1 locs1 hP hD hS => kk H1 locs1 ⟨hP, hD, hS⟩)
theorem gmX12_124 (F : CallFix p m c cc nL s args (cw :: Gw) RX12) (K : va_K D vwCl (tyL cy) s) (Z : ZG D (wM ad cy st) A s H locs) (hd : decode cc pc = .ok (.getfield 124, 3)) (kk : W p l e R s m args below meth c H locs 0 0 Q (F0 m (pc + 3) ls (.ref (ad 36) :: rest))) : W p l e R s m args below meth c H locs 0 0 Q (F0 m pc ls (.ref (ad 0) :: rest)) :=
  va_get (D := D) (ci := 12) (C := RX12) (T := TX12) (N := 98) F.1 F.2.1 F.2.2.2.2 (fun w h => List.mem_cons_of_mem _ (inG_X12 w h)) F.2.2.2.1 K Z.1 0 rfl rfl 66 (by decide) (F.2.2.2.2 _ (List.mem_cons_of_mem _ wd1213)) (fun _ h => h) rfl hd kk
theorem ms36 {i : Int32} {v : Int32} (F : CallFix p m c cc nL s args (cw :: Gw) own) (K : va_K D vwCl (tyL cy) s) (Z : ZG D (wM ad cy st) A s H locs) (hi : inB i 30000 = true) (hd : decode cc pc = .ok (.iastore, 1)) (kk : ∀ (H1 : Heap) (locs1 : List Loc), ZG D (wM ad cy (uA st 35 i v)) A s H1 locs1 → W p l e R s m args below meth c H1 locs1 0 0 Q (F0 m (pc + 1) ls rest)) : W p l e R s m args below meth c H locs 0 0 Q (F0 m pc ls (.int v :: .int i :: .ref (ad 36) :: rest)) :=
  va_iast F.1 F.2.1 K Z.1 Z.2.1 Z.2.2 36 1 rfl rfl (inB_vp hi) hd (fun H1 locs1 hP hD hS => kk H1 locs1 ⟨hP, hD, hS⟩)
theorem gmX12_127 (F : CallFix p m c cc nL s args (cw :: Gw) RX12) (K : va_K D vwCl (tyL cy) s) (Z : ZG D (wM ad cy st) A s H locs) (hd : decode cc pc = .ok (.getfield 127, 3)) (kk : W p l e R s m args below meth c H locs 0 0 Q (F0 m (pc + 3) ls (.ref (ad 37) :: rest))) : W p l e R s m args below meth c H locs 0 0 Q (F0 m pc ls (.ref (ad 0) :: rest)) :=
  va_get (D := D) (ci := 12) (C := RX12) (T := TX12) (N := 98) F.1 F.2.1 F.2.2.2.2 (fun w h => List.mem_cons_of_mem _ (inG_X12 w h)) F.2.2.2.1 K Z.1 0 rfl rfl 67 (by decide) (F.2.2.2.2 _ (List.mem_cons_of_mem _ wd1214)) (fun _ h => h) rfl hd kk
theorem ms37 {i : Int32} {v : Int32} (F : CallFix p m c cc nL s args (cw :: Gw) own) (K : va_K D vwCl (tyL cy) s) (Z : ZG D (wM ad cy st) A s H locs) (hi : inB i 30000 = true) (hd : decode cc pc = .ok (.iastore, 1)) (kk : ∀ (H1 : Heap) (locs1 : List Loc), ZG D (wM ad cy (uA st 36 i v)) A s H1 locs1 → W p l e R s m args below meth c H1 locs1 0 0 Q (F0 m (pc + 1) ls rest)) : W p l e R s m args below meth c H locs 0 0 Q (F0 m pc ls (.int v :: .int i :: .ref (ad 37) :: rest)) :=
  va_iast F.1 F.2.1 K Z.1 Z.2.1 Z.2.2 37 1 rfl rfl (inB_vp hi) hd (fun H1 locs1 hP hD hS => kk H1 locs1 ⟨hP, hD, hS⟩)
theorem pmX12_411 {v : Int32} (F : CallFix p m c cc nL s args (cw :: Gw) RX12) (K : va_K D vwCl (tyL cy) s) (Z : ZG D (wM ad cy st) A s H locs) (hd : decode cc pc = .ok (.putfield 411, 3)) (kk : ∀ (H1 : Heap) (locs1 : List Loc), ZG D (wM ad cy (uF st 31 v)) A s H1 locs1 → W p l e R s m args below meth c H1 locs1 0 0 Q (F0 m (pc + 3) ls rest)) : W p l e R s m args below meth c H locs 0 0 Q (F0 m pc ls (.int v :: .ref (ad 0) :: rest)) :=
  va_put (D := D) (ci := 12) (v := .int v) (ty := .int) (C := RX12) (T := TX12) (N := 98) F.1 F.2.1 F.2.2.2.2 (fun w h => List.mem_cons_of_mem _ (inG_X12 w h)) tyX12 tyX12_ok nmX12 F.2.2.2.1 K Z.1 Z.2.1 Z.2.2 0 rfl rfl 68 (by decide) (F.2.2.2.2 _ (List.mem_cons_of_mem _ wd1211)) (fun _ h => h) rfl (by decide +kernel) rfl rfl (Nat.le_of_ble_eq_true rfl) hd (fun H1 locs1 hP hD hS => kk H1 locs1 ⟨hP, hD, hS⟩)
end
set_option maxRecDepth 100000 in
set_option maxHeartbeats 4000000 in
theorem c_X12_push {l : Launch} {D : va_G} {ad : Nat → Nat} {cy : Nat → ClassId} {ee : EE} {n : Nat} {st : StT} {x1 : Int32} {x2 : Int32} {x3 : Int32} {x4 : Int32} {res : StT} (hf : f_X12_push n st x1 x2 x3 x4 = some res) : CT l yX12_push cX12_push 5 none 0 0 D cy ee (wM ad cy st) (wM ad cy res) [.ref (ad 0), .int x1, .int x2, .int x3, .int x4] (none) := by
  refine CT.of (by decide +kernel) (Nat.le_of_ble_eq_true rfl) ?_
  intro p e s m args below meth c A F hr hk K E hA Z ls hl
  have hl : lv_has ls 5 [(0, .ref (ad 0)), (1, .int x1), (2, .int x2), (3, .int x3), (4, .int x4)] := hl
  have hx := F.1
  have hb := F.2.1
  unfold f_X12_push at hf
  refine lv_aload_n hx hb dX12_push_0 rfl (lv_at hl 0 rfl) ?_
  refine gmX12_118 F K Z dX12_push_1 ?_
  refine lv_aload_n hx hb dX12_push_4 rfl (lv_at hl 0 rfl) ?_
  refine gmX12_411 F K Z dX12_push_5 ?_
  refine lv_iload_n hx hb dX12_push_8 rfl (lv_at hl 1 rfl) ?_
  obtain ⟨i9, hf⟩ := if_some hf
  refine ms34 F K Z i9 dX12_push_9 (fun H locs Z => ?_)
  refine lv_aload_n hx hb dX12_push_10 rfl (lv_at hl 0 rfl) ?_
  refine gmX12_121 F K Z dX12_push_11 ?_
  refine lv_aload_n hx hb dX12_push_14 rfl (lv_at hl 0 rfl) ?_
  refine gmX12_411 F K Z dX12_push_15 ?_
  refine lv_iload_n hx hb dX12_push_18 rfl (lv_at hl 2 rfl) ?_
  obtain ⟨i19, hf⟩ := if_some hf
  refine ms35 F K Z i19 dX12_push_19 (fun H locs Z => ?_)
  refine lv_aload_n hx hb dX12_push_20 rfl (lv_at hl 0 rfl) ?_
  refine gmX12_124 F K Z dX12_push_21 ?_
  refine lv_aload_n hx hb dX12_push_24 rfl (lv_at hl 0 rfl) ?_
  refine gmX12_411 F K Z dX12_push_25 ?_
  refine lv_iload_n hx hb dX12_push_28 rfl (lv_at hl 3 rfl) ?_
  obtain ⟨i29, hf⟩ := if_some hf
  refine ms36 F K Z i29 dX12_push_29 (fun H locs Z => ?_)
  refine lv_aload_n hx hb dX12_push_30 rfl (lv_at hl 0 rfl) ?_
  refine gmX12_127 F K Z dX12_push_31 ?_
  refine lv_aload_n hx hb dX12_push_34 rfl (lv_at hl 0 rfl) ?_
  refine gmX12_411 F K Z dX12_push_35 ?_
  refine lv_iload hx hb dX12_push_38 (lv_at hl 4 rfl) ?_
  obtain ⟨i40, hf⟩ := if_some hf
  refine ms37 F K Z i40 dX12_push_40 (fun H locs Z => ?_)
  refine lv_aload_n hx hb dX12_push_41 rfl (lv_at hl 0 rfl) ?_
  refine lv_dup hx hb dX12_push_42 rfl ?_
  refine gmX12_411 F K Z dX12_push_43 ?_
  refine lv_iconst (v := 1) hx hb dX12_push_46 (by decide) ?_
  refine lv_iadd hx hb dX12_push_47 ?_
  refine pmX12_411 F K Z dX12_push_48 (fun H locs Z => ?_)
  have hf := Option.some.inj hf
  subst hf
  exact ret_v F hr hk Z dX12_push_51
def f_X12_putFormula_202 (n : Nat) (st : StT) (x1 : Int32) (y0 : Int32) (y1 : Int32) : Option StT := (f_X12_push n st y1 y0 (0 : Int32) (0 : Int32)).bind fun q204 => (if inB x1 4200 = true then ((f_X12_push n q204 (1 : Int32) (q204.2.1 1 (x1).toNatClampNeg) (0 : Int32) (0 : Int32)).bind fun q217 => (some q217)) else none)
def f_X12_putFormula_178 (n : Nat) (st : StT) (x1 : Int32) (x2 : Int32) : Option StT := if x2 = (5 : Int32) then (f_X12_putFormula_202 n st x1 (45 : Int32) (0 : Int32)) else (if x2 = (3 : Int32) then (f_X12_putFormula_202 n st x1 (38 : Int32) (0 : Int32)) else (f_X12_putFormula_202 n st x1 (124 : Int32) (0 : Int32)))
def f_X12_putFormula_92 (n : Nat) : Nat → StT → Int32 → Int32 → Option StT
  | 0, _, _, _ => none
  | k + 1, st, x1, x3 => if inB x1 4200 = true then (if inB (st.2.1 1 (x1).toNatClampNeg) 24 = true then (if (st.2.1 4 ((st.2.1 1 (x1).toNatClampNeg)).toNatClampNeg) ≤ x3 then (some st) else (if inB x1 4200 = true then (if inB (((6 : Int32) * (st.2.1 1 (x1).toNatClampNeg)) + x3) 144 = true then ((f_X12_put n st (st.2.1 3 ((((6 : Int32) * (st.2.1 1 (x1).toNatClampNeg)) + x3)).toNatClampNeg)).bind fun q124 => (f_X12_putFormula_92 n k q124 x1 (x3 + (1 : Int32)))) else none) else none)) else none) else none
def f_X12_putFormula_69 (n : Nat) (st : StT) (x2 : Int32) (y0 : Int32) : Option StT := (f_X12_put n st y0).bind fun q69 => (if x2 = 0 then ((f_X12_put n q69 (101 : Int32)).bind fun q79 => (some q79)) else (some q69))
def f_X12_putFormula_54 (n : Nat) (st : StT) (x2 : Int32) (y0 : Int32) : Option StT := (f_X12_put n st y0).bind fun q54 => (if x2 = 0 then (f_X12_putFormula_69 n q54 x2 (115 : Int32)) else (f_X12_putFormula_69 n q54 x2 (101 : Int32)))
def f_X12_putFormula_39 (n : Nat) (st : StT) (x2 : Int32) (y0 : Int32) : Option StT := (f_X12_put n st y0).bind fun q39 => (if x2 = 0 then (f_X12_putFormula_54 n q39 x2 (108 : Int32)) else (f_X12_putFormula_54 n q39 x2 (117 : Int32)))
def f_X12_putFormula_24 (n : Nat) (st : StT) (x2 : Int32) (y0 : Int32) : Option StT := (f_X12_put n st y0).bind fun q24 => (if x2 = 0 then (f_X12_putFormula_39 n q24 x2 (97 : Int32)) else (f_X12_putFormula_39 n q24 x2 (114 : Int32)))
def f_X12_putFormula (n : Nat) (st : StT) (x1 : Int32) : Option StT := if inB x1 4200 = true then (if (2 : Int32) ≤ (st.2.1 0 (x1).toNatClampNeg) then (if (st.2.1 0 (x1).toNatClampNeg) = (2 : Int32) then (f_X12_putFormula_92 n n st x1 (0 : Int32)) else ((f_X12_put n st (40 : Int32)).bind fun q139 => ((f_X12_push n q139 (0 : Int32) (41 : Int32) (0 : Int32) (0 : Int32)).bind fun q148 => (if inB x1 4200 = true then ((f_X12_push n q148 (1 : Int32) (q148.2.1 2 (x1).toNatClampNeg) (0 : Int32) (0 : Int32)).bind fun q161 => (if (st.2.1 0 (x1).toNatClampNeg) = (5 : Int32) then ((f_X12_push n q161 (0 : Int32) (62 : Int32) (0 : Int32) (0 : Int32)).bind fun q175 => (f_X12_putFormula_178 n q175 x1 (st.2.1 0 (x1).toNatClampNeg))) else (f_X12_putFormula_178 n q161 x1 (st.2.1 0 (x1).toNatClampNeg)))) else none)))) else (if (st.2.1 0 (x1).toNatClampNeg) = 0 then (f_X12_putFormula_24 n st (st.2.1 0 (x1).toNatClampNeg) (102 : Int32)) else (f_X12_putFormula_24 n st (st.2.1 0 (x1).toNatClampNeg) (116 : Int32)))) else none
theorem wd1215 : Cond.methodLink RX12 414 yX12_push ∈ Gw := gT7 (List.mem_of_getElem? (i := 118) rfl) rfl
theorem wd1216 : Cond.code yX12_push prog_14_method_45_code 5 none ∈ Gw := gT7 (List.mem_of_getElem? (i := 121) rfl) rfl
theorem wd1217 : Cond.instanceMethod yX12_push ∈ Gw := gT7 (List.mem_of_getElem? (i := 120) rfl) rfl
theorem wd1218 : Cond.selects RX12 yX12_push yX12_push ∈ Gw := gP5 (q := (yX12_push, 98)) (List.mem_of_getElem? (i := 5) rfl)
section
variable {p : Program} {l : Launch} {e : Env} {R : Room} {s : State} {m : MethodId} {args : Array Value} {below : List Frame} {meth : Method} {c : Code} {H : Heap} {locs : List Loc} {Q : State → Prop}
variable {cc : ByteArray} {nL pc : Nat} {ls : Array Slot} {rest : List Value} {D : va_G} {A : Nat → Prop} {cw : Cond} {ad : Nat → Nat} {cy : Nat → ClassId} {ee : EE} {st : StT} {own : String}
theorem krX12_414_X12_push {n : Nat} {a0 : Int32} {a1 : Int32} {a2 : Int32} {a3 : Int32} {q : StT} (F : CallFix p m c cc nL s args (cw :: Gw) RX12) (K : va_K D vwCl (tyL cy) s) (E : EV ee A s s.heap) (hA : ∀ q, s.heap.size ≤ q → A q) (Z : ZG D (wM ad cy st) A s H locs) (hf : f_X12_push n st a0 a1 a2 a3 = some q) (hR : 1 ≤ R.frames ∧ 24 ≤ R.locals) (hl : ls.size = nL) (hst : (rest.map fun v => v.category).sum ≤ 8) (hd : decode cc pc = .ok (.invokevirtual 414, 3)) (kk : ∀ (H1 : Heap) (locs1 : List Loc), ZG D (wM ad cy q) A s H1 locs1 → W p l e R s m args below meth c H1 locs1 0 0 Q (F0 m (pc + 3) ls (rest))) : W p l e R s m args below meth c H locs 0 0 Q (F0 m pc ls (.int a3 :: .int a2 :: .int a1 :: .int a0 :: .ref (ad 0) :: rest)) :=
  call_V (q := (RX12, TX12, 98)) (n := 4) (As := [.int a0, .int a1, .int a2, .int a3]) (rv := none) 0 12 F K E hA Z (c_X12_push (l := l) (D := D) (ad := ad) (cy := cy) (ee := ee) hf) ⟨wd1216, wd1215, wd1217, wd1218, wd1008⟩ (by decide +kernel) rfl rfl hR rfl hl hst hd kk
end
set_option maxRecDepth 100000 in
set_option maxHeartbeats 4000000 in
theorem b_X12_putFormula_202 {p : Program} {l : Launch} {e : Env} {s : State} {m : MethodId} {args : Array Value} {below : List Frame} {meth : Method} {c : Code} {D : va_G} {A : Nat → Prop} {ad : Nat → Nat} {cy : Nat → ClassId} {ee : EE} {n : Nat} {res : StT} (F : CallFix p m c cX12_putFormula 4 s args (Cond.code yX12_putFormula cX12_putFormula 4 none :: Gw) yX12_putFormula.cls) (hr : meth.sig.returnType = none) (hk : meth.locks = false) (K : va_K D vwCl (tyL cy) s) (E : EV ee A s s.heap) (hA : ∀ q, s.heap.size ≤ q → A q) : ∀ (st : StT) (x1 : Int32) (y0 : Int32) (y1 : Int32), f_X12_putFormula_202 n st x1 y0 y1 = some res → ∀ (H : Heap) (locs : List Loc) (ls : Array Slot), ZG D (wM ad cy st) A s H locs → lv_has ls 4 [(0, .ref (ad 0)), (1, .int x1)] → W p l e { frames := 1, cells := 0, slots := 0, locals := 24 } s m args below meth c H locs 0 0 (MQ below (QC D (none) (wM ad cy res) A) args s 0 0 A) (F0 m 202 ls [.int y0, .int y1, .ref (ad 0)]) := by
  have hx := F.1
  have hb := F.2.1
  intro st x1 y0 y1 hf H locs ls Z hl
  unfold f_X12_putFormula_202 at hf
  refine lv_iconst (v := 0) hx hb dX12_putFormula_202 (by decide) ?_
  refine lv_iconst (v := 0) hx hb dX12_putFormula_203 (by decide) ?_
  obtain ⟨q204, h204, hf⟩ := bind_some hf
  refine krX12_414_X12_push F K E hA Z h204 ⟨Nat.le_of_ble_eq_true rfl, Nat.le_of_ble_eq_true rfl⟩ hl.1 (Nat.le_of_ble_eq_true rfl) dX12_putFormula_204 (fun H locs Z => ?_)
  refine lv_aload_n hx hb dX12_putFormula_207 rfl (lv_at hl 0 rfl) ?_
  refine lv_iconst (v := 1) hx hb dX12_putFormula_208 (by decide) ?_
  refine lv_aload_n hx hb dX12_putFormula_209 rfl (lv_at hl 0 rfl) ?_
  refine gmX12_13 F K Z dX12_putFormula_210 ?_
  refine lv_iload_n hx hb dX12_putFormula_213 rfl (lv_at hl 1 rfl) ?_
  obtain ⟨i214, hf⟩ := if_some hf
  refine ml2 F K Z i214 dX12_putFormula_214 ?_
  refine lv_iconst (v := 0) hx hb dX12_putFormula_215 (by decide) ?_
  refine lv_iconst (v := 0) hx hb dX12_putFormula_216 (by decide) ?_
  obtain ⟨q217, h217, hf⟩ := bind_some hf
  refine krX12_414_X12_push F K E hA Z h217 ⟨Nat.le_of_ble_eq_true rfl, Nat.le_of_ble_eq_true rfl⟩ hl.1 (Nat.le_of_ble_eq_true rfl) dX12_putFormula_217 (fun H locs Z => ?_)
  have hf := Option.some.inj hf
  subst hf
  exact ret_v F hr hk Z dX12_putFormula_220
set_option maxRecDepth 100000 in
set_option maxHeartbeats 4000000 in
theorem b_X12_putFormula_178 {p : Program} {l : Launch} {e : Env} {s : State} {m : MethodId} {args : Array Value} {below : List Frame} {meth : Method} {c : Code} {D : va_G} {A : Nat → Prop} {ad : Nat → Nat} {cy : Nat → ClassId} {ee : EE} {n : Nat} {res : StT} (F : CallFix p m c cX12_putFormula 4 s args (Cond.code yX12_putFormula cX12_putFormula 4 none :: Gw) yX12_putFormula.cls) (hr : meth.sig.returnType = none) (hk : meth.locks = false) (K : va_K D vwCl (tyL cy) s) (E : EV ee A s s.heap) (hA : ∀ q, s.heap.size ≤ q → A q) : ∀ (st : StT) (x1 : Int32) (x2 : Int32), f_X12_putFormula_178 n st x1 x2 = some res → ∀ (H : Heap) (locs : List Loc) (ls : Array Slot), ZG D (wM ad cy st) A s H locs → lv_has ls 4 [(0, .ref (ad 0)), (1, .int x1), (2, .int x2)] → W p l e { frames := 1, cells := 0, slots := 0, locals := 24 } s m args below meth c H locs 0 0 (MQ below (QC D (none) (wM ad cy res) A) args s 0 0 A) (F0 m 178 ls []) := by
  have hx := F.1
  have hb := F.2.1
  intro st x1 x2 hf H locs ls Z hl
  unfold f_X12_putFormula_178 at hf
  refine lv_aload_n hx hb dX12_putFormula_178 rfl (lv_at hl 0 rfl) ?_
  refine lv_iconst (v := 0) hx hb dX12_putFormula_179 (by decide) ?_
  refine lv_iload_n hx hb dX12_putFormula_180 rfl (lv_at hl 2 rfl) ?_
  refine lv_iconst (v := 5) hx hb dX12_putFormula_181 (by decide) ?_
  refine lv_icmp_ne (tgt := 190) hx hb dX12_putFormula_182 (by decide) (fun c182 => ?_) (fun c182 => ?_)
  · have hf := if_f c182 hf
    refine lv_iload_n hx hb dX12_putFormula_190 rfl (lv_at hl 2 rfl) ?_
    refine lv_iconst (v := 3) hx hb dX12_putFormula_191 (by decide) ?_
    refine lv_icmp_ne (tgt := 200) hx hb dX12_putFormula_192 (by decide) (fun c192 => ?_) (fun c192 => ?_)
    · have hf := if_f c192 hf
      refine lv_bipush (v := 124) hx hb dX12_putFormula_200 (by decide) ?_
      exact b_X12_putFormula_202 F hr hk K E hA _ _ _ _ hf _ _ _ Z (lv_sub hl [0, 1] rfl)
    have hf := if_t c192 hf
    refine lv_bipush (v := 38) hx hb dX12_putFormula_195 (by decide) ?_
    refine lv_goto (tgt := 202) hx hb dX12_putFormula_197 (by decide) ?_
    exact b_X12_putFormula_202 F hr hk K E hA _ _ _ _ hf _ _ _ Z (lv_sub hl [0, 1] rfl)
  have hf := if_t c182 hf
  refine lv_bipush (v := 45) hx hb dX12_putFormula_185 (by decide) ?_
  refine lv_goto (tgt := 202) hx hb dX12_putFormula_187 (by decide) ?_
  exact b_X12_putFormula_202 F hr hk K E hA _ _ _ _ hf _ _ _ Z (lv_sub hl [0, 1] rfl)
set_option maxRecDepth 100000 in
set_option maxHeartbeats 4000000 in
theorem b_X12_putFormula_92 {p : Program} {l : Launch} {e : Env} {s : State} {m : MethodId} {args : Array Value} {below : List Frame} {meth : Method} {c : Code} {D : va_G} {A : Nat → Prop} {ad : Nat → Nat} {cy : Nat → ClassId} {ee : EE} {n : Nat} {res : StT} (F : CallFix p m c cX12_putFormula 4 s args (Cond.code yX12_putFormula cX12_putFormula 4 none :: Gw) yX12_putFormula.cls) (hr : meth.sig.returnType = none) (hk : meth.locks = false) (K : va_K D vwCl (tyL cy) s) (E : EV ee A s s.heap) (hA : ∀ q, s.heap.size ≤ q → A q) : ∀ (k : Nat) (st : StT) (x1 : Int32) (x3 : Int32), f_X12_putFormula_92 n k st x1 x3 = some res → ∀ (H : Heap) (locs : List Loc) (ls : Array Slot), ZG D (wM ad cy st) A s H locs → lv_has ls 4 [(0, .ref (ad 0)), (1, .int x1), (3, .int x3)] → W p l e { frames := 1, cells := 0, slots := 0, locals := 24 } s m args below meth c H locs 0 0 (MQ below (QC D (none) (wM ad cy res) A) args s 0 0 A) (F0 m 92 ls []) := by
  have hx := F.1
  have hb := F.2.1
  intro k
  induction k with
  | zero =>
    intro st x1 x3 hf
    exact absurd hf (by simp [f_X12_putFormula_92])
  | succ k ih =>
    intro st x1 x3 hf H locs ls Z hl
    rw [f_X12_putFormula_92] at hf
    refine lv_iload_n hx hb dX12_putFormula_92 rfl (lv_at hl 2 rfl) ?_
    refine lv_aload_n hx hb dX12_putFormula_93 rfl (lv_at hl 0 rfl) ?_
    refine gmX12_22 F K Z dX12_putFormula_94 ?_
    refine lv_aload_n hx hb dX12_putFormula_97 rfl (lv_at hl 0 rfl) ?_
    refine gmX12_13 F K Z dX12_putFormula_98 ?_
    refine lv_iload_n hx hb dX12_putFormula_101 rfl (lv_at hl 1 rfl) ?_
    obtain ⟨i102, hf⟩ := if_some hf
    refine ml2 F K Z i102 dX12_putFormula_102 ?_
    obtain ⟨i103, hf⟩ := if_some hf
    refine ml5 F K Z i103 dX12_putFormula_103 ?_
    refine lv_icmp_ge (tgt := 133) hx hb dX12_putFormula_104 (by decide) (fun c104 => ?_) (fun c104 => ?_)
    · have hf := if_t c104 hf
      refine lv_goto (tgt := 220) hx hb dX12_putFormula_133 (by decide) ?_
      have hf := Option.some.inj hf
      subst hf
      exact ret_v F hr hk Z dX12_putFormula_220
    have hf := if_f c104 hf
    refine lv_aload_n hx hb dX12_putFormula_107 rfl (lv_at hl 0 rfl) ?_
    refine lv_aload_n hx hb dX12_putFormula_108 rfl (lv_at hl 0 rfl) ?_
    refine gmX12_19 F K Z dX12_putFormula_109 ?_
    refine lv_bipush (v := 6) hx hb dX12_putFormula_112 (by decide) ?_
    refine lv_aload_n hx hb dX12_putFormula_114 rfl (lv_at hl 0 rfl) ?_
    refine gmX12_13 F K Z dX12_putFormula_115 ?_
    refine lv_iload_n hx hb dX12_putFormula_118 rfl (lv_at hl 1 rfl) ?_
    obtain ⟨i119, hf⟩ := if_some hf
    refine ml2 F K Z i119 dX12_putFormula_119 ?_
    refine lv_imul hx hb dX12_putFormula_120 ?_
    refine lv_iload_n hx hb dX12_putFormula_121 rfl (lv_at hl 2 rfl) ?_
    refine lv_iadd hx hb dX12_putFormula_122 ?_
    obtain ⟨i123, hf⟩ := if_some hf
    refine ml4 F K Z i123 dX12_putFormula_123 ?_
    obtain ⟨q124, h124, hf⟩ := bind_some hf
    refine krX12_407_X12_put F K E hA Z h124 ⟨Nat.le_of_ble_eq_true rfl, Nat.le_of_ble_eq_true rfl⟩ hl.1 (Nat.le_of_ble_eq_true rfl) dX12_putFormula_124 (fun H locs Z => ?_)
    refine lv_iinc (v := (x3 + (1 : Int32))) (lv' := [(3, .int (x3 + (1 : Int32))), (0, .ref (ad 0)), (1, .int x1)]) hx hb dX12_putFormula_127 hl (k := 2) rfl (congrArg (fun z => x3 + z) (by decide)) (by decide) rfl (fun ls hl => ?_)
    refine lv_goto (tgt := 92) hx hb dX12_putFormula_130 (by decide) ?_
    exact ih _ _ _ hf _ _ _ Z (lv_sub hl [1, 2, 0] rfl)
set_option maxRecDepth 100000 in
set_option maxHeartbeats 4000000 in
theorem b_X12_putFormula_69 {p : Program} {l : Launch} {e : Env} {s : State} {m : MethodId} {args : Array Value} {below : List Frame} {meth : Method} {c : Code} {D : va_G} {A : Nat → Prop} {ad : Nat → Nat} {cy : Nat → ClassId} {ee : EE} {n : Nat} {res : StT} (F : CallFix p m c cX12_putFormula 4 s args (Cond.code yX12_putFormula cX12_putFormula 4 none :: Gw) yX12_putFormula.cls) (hr : meth.sig.returnType = none) (hk : meth.locks = false) (K : va_K D vwCl (tyL cy) s) (E : EV ee A s s.heap) (hA : ∀ q, s.heap.size ≤ q → A q) : ∀ (st : StT) (x2 : Int32) (y0 : Int32), f_X12_putFormula_69 n st x2 y0 = some res → ∀ (H : Heap) (locs : List Loc) (ls : Array Slot), ZG D (wM ad cy st) A s H locs → lv_has ls 4 [(0, .ref (ad 0)), (2, .int x2)] → W p l e { frames := 1, cells := 0, slots := 0, locals := 24 } s m args below meth c H locs 0 0 (MQ below (QC D (none) (wM ad cy res) A) args s 0 0 A) (F0 m 69 ls [.int y0, .ref (ad 0)]) := by
  have hx := F.1
  have hb := F.2.1
  intro st x2 y0 hf H locs ls Z hl
  unfold f_X12_putFormula_69 at hf
  obtain ⟨q69, h69, hf⟩ := bind_some hf
  refine krX12_407_X12_put F K E hA Z h69 ⟨Nat.le_of_ble_eq_true rfl, Nat.le_of_ble_eq_true rfl⟩ hl.1 (Nat.le_of_ble_eq_true rfl) dX12_putFormula_69 (fun H locs Z => ?_)
  refine lv_iload_n hx hb dX12_putFormula_72 rfl (lv_at hl 1 rfl) ?_
  refine lv_if_ne (tgt := 220) hx hb dX12_putFormula_73 (by decide) (fun c73 => ?_) (fun c73 => ?_)
  · have hf := if_f c73 hf
    have hf := Option.some.inj hf
    subst hf
    exact ret_v F hr hk Z dX12_putFormula_220
  have hf := if_t c73 hf
  refine lv_aload_n hx hb dX12_putFormula_76 rfl (lv_at hl 0 rfl) ?_
  refine lv_bipush (v := 101) hx hb dX12_putFormula_77 (by decide) ?_
  obtain ⟨q79, h79, hf⟩ := bind_some hf
  refine krX12_407_X12_put F K E hA Z h79 ⟨Nat.le_of_ble_eq_true rfl, Nat.le_of_ble_eq_true rfl⟩ hl.1 (Nat.le_of_ble_eq_true rfl) dX12_putFormula_79 (fun H locs Z => ?_)
  refine lv_goto (tgt := 220) hx hb dX12_putFormula_82 (by decide) ?_
  have hf := Option.some.inj hf
  subst hf
  exact ret_v F hr hk Z dX12_putFormula_220
set_option maxRecDepth 100000 in
set_option maxHeartbeats 4000000 in
theorem b_X12_putFormula_54 {p : Program} {l : Launch} {e : Env} {s : State} {m : MethodId} {args : Array Value} {below : List Frame} {meth : Method} {c : Code} {D : va_G} {A : Nat → Prop} {ad : Nat → Nat} {cy : Nat → ClassId} {ee : EE} {n : Nat} {res : StT} (F : CallFix p m c cX12_putFormula 4 s args (Cond.code yX12_putFormula cX12_putFormula 4 none :: Gw) yX12_putFormula.cls) (hr : meth.sig.returnType = none) (hk : meth.locks = false) (K : va_K D vwCl (tyL cy) s) (E : EV ee A s s.heap) (hA : ∀ q, s.heap.size ≤ q → A q) : ∀ (st : StT) (x2 : Int32) (y0 : Int32), f_X12_putFormula_54 n st x2 y0 = some res → ∀ (H : Heap) (locs : List Loc) (ls : Array Slot), ZG D (wM ad cy st) A s H locs → lv_has ls 4 [(0, .ref (ad 0)), (2, .int x2)] → W p l e { frames := 1, cells := 0, slots := 0, locals := 24 } s m args below meth c H locs 0 0 (MQ below (QC D (none) (wM ad cy res) A) args s 0 0 A) (F0 m 54 ls [.int y0, .ref (ad 0)]) := by
  have hx := F.1
  have hb := F.2.1
  intro st x2 y0 hf H locs ls Z hl
  unfold f_X12_putFormula_54 at hf
  obtain ⟨q54, h54, hf⟩ := bind_some hf
  refine krX12_407_X12_put F K E hA Z h54 ⟨Nat.le_of_ble_eq_true rfl, Nat.le_of_ble_eq_true rfl⟩ hl.1 (Nat.le_of_ble_eq_true rfl) dX12_putFormula_54 (fun H locs Z => ?_)
  refine lv_aload_n hx hb dX12_putFormula_57 rfl (lv_at hl 0 rfl) ?_
  refine lv_iload_n hx hb dX12_putFormula_58 rfl (lv_at hl 1 rfl) ?_
  refine lv_if_ne (tgt := 67) hx hb dX12_putFormula_59 (by decide) (fun c59 => ?_) (fun c59 => ?_)
  · have hf := if_f c59 hf
    refine lv_bipush (v := 101) hx hb dX12_putFormula_67 (by decide) ?_
    exact b_X12_putFormula_69 F hr hk K E hA _ _ _ hf _ _ _ Z hl
  have hf := if_t c59 hf
  refine lv_bipush (v := 115) hx hb dX12_putFormula_62 (by decide) ?_
  refine lv_goto (tgt := 69) hx hb dX12_putFormula_64 (by decide) ?_
  exact b_X12_putFormula_69 F hr hk K E hA _ _ _ hf _ _ _ Z hl
set_option maxRecDepth 100000 in
set_option maxHeartbeats 4000000 in
theorem b_X12_putFormula_39 {p : Program} {l : Launch} {e : Env} {s : State} {m : MethodId} {args : Array Value} {below : List Frame} {meth : Method} {c : Code} {D : va_G} {A : Nat → Prop} {ad : Nat → Nat} {cy : Nat → ClassId} {ee : EE} {n : Nat} {res : StT} (F : CallFix p m c cX12_putFormula 4 s args (Cond.code yX12_putFormula cX12_putFormula 4 none :: Gw) yX12_putFormula.cls) (hr : meth.sig.returnType = none) (hk : meth.locks = false) (K : va_K D vwCl (tyL cy) s) (E : EV ee A s s.heap) (hA : ∀ q, s.heap.size ≤ q → A q) : ∀ (st : StT) (x2 : Int32) (y0 : Int32), f_X12_putFormula_39 n st x2 y0 = some res → ∀ (H : Heap) (locs : List Loc) (ls : Array Slot), ZG D (wM ad cy st) A s H locs → lv_has ls 4 [(0, .ref (ad 0)), (2, .int x2)] → W p l e { frames := 1, cells := 0, slots := 0, locals := 24 } s m args below meth c H locs 0 0 (MQ below (QC D (none) (wM ad cy res) A) args s 0 0 A) (F0 m 39 ls [.int y0, .ref (ad 0)]) := by
  have hx := F.1
  have hb := F.2.1
  intro st x2 y0 hf H locs ls Z hl
  unfold f_X12_putFormula_39 at hf
  obtain ⟨q39, h39, hf⟩ := bind_some hf
  refine krX12_407_X12_put F K E hA Z h39 ⟨Nat.le_of_ble_eq_true rfl, Nat.le_of_ble_eq_true rfl⟩ hl.1 (Nat.le_of_ble_eq_true rfl) dX12_putFormula_39 (fun H locs Z => ?_)
  refine lv_aload_n hx hb dX12_putFormula_42 rfl (lv_at hl 0 rfl) ?_
  refine lv_iload_n hx hb dX12_putFormula_43 rfl (lv_at hl 1 rfl) ?_
  refine lv_if_ne (tgt := 52) hx hb dX12_putFormula_44 (by decide) (fun c44 => ?_) (fun c44 => ?_)
  · have hf := if_f c44 hf
    refine lv_bipush (v := 117) hx hb dX12_putFormula_52 (by decide) ?_
    exact b_X12_putFormula_54 F hr hk K E hA _ _ _ hf _ _ _ Z hl
  have hf := if_t c44 hf
  refine lv_bipush (v := 108) hx hb dX12_putFormula_47 (by decide) ?_
  refine lv_goto (tgt := 54) hx hb dX12_putFormula_49 (by decide) ?_
  exact b_X12_putFormula_54 F hr hk K E hA _ _ _ hf _ _ _ Z hl
set_option maxRecDepth 100000 in
set_option maxHeartbeats 4000000 in
theorem b_X12_putFormula_24 {p : Program} {l : Launch} {e : Env} {s : State} {m : MethodId} {args : Array Value} {below : List Frame} {meth : Method} {c : Code} {D : va_G} {A : Nat → Prop} {ad : Nat → Nat} {cy : Nat → ClassId} {ee : EE} {n : Nat} {res : StT} (F : CallFix p m c cX12_putFormula 4 s args (Cond.code yX12_putFormula cX12_putFormula 4 none :: Gw) yX12_putFormula.cls) (hr : meth.sig.returnType = none) (hk : meth.locks = false) (K : va_K D vwCl (tyL cy) s) (E : EV ee A s s.heap) (hA : ∀ q, s.heap.size ≤ q → A q) : ∀ (st : StT) (x2 : Int32) (y0 : Int32), f_X12_putFormula_24 n st x2 y0 = some res → ∀ (H : Heap) (locs : List Loc) (ls : Array Slot), ZG D (wM ad cy st) A s H locs → lv_has ls 4 [(0, .ref (ad 0)), (2, .int x2)] → W p l e { frames := 1, cells := 0, slots := 0, locals := 24 } s m args below meth c H locs 0 0 (MQ below (QC D (none) (wM ad cy res) A) args s 0 0 A) (F0 m 24 ls [.int y0, .ref (ad 0)]) := by
  have hx := F.1
  have hb := F.2.1
  intro st x2 y0 hf H locs ls Z hl
  unfold f_X12_putFormula_24 at hf
  obtain ⟨q24, h24, hf⟩ := bind_some hf
  refine krX12_407_X12_put F K E hA Z h24 ⟨Nat.le_of_ble_eq_true rfl, Nat.le_of_ble_eq_true rfl⟩ hl.1 (Nat.le_of_ble_eq_true rfl) dX12_putFormula_24 (fun H locs Z => ?_)
  refine lv_aload_n hx hb dX12_putFormula_27 rfl (lv_at hl 0 rfl) ?_
  refine lv_iload_n hx hb dX12_putFormula_28 rfl (lv_at hl 1 rfl) ?_
  refine lv_if_ne (tgt := 37) hx hb dX12_putFormula_29 (by decide) (fun c29 => ?_) (fun c29 => ?_)
  · have hf := if_f c29 hf
    refine lv_bipush (v := 114) hx hb dX12_putFormula_37 (by decide) ?_
    exact b_X12_putFormula_39 F hr hk K E hA _ _ _ hf _ _ _ Z hl
  have hf := if_t c29 hf
  refine lv_bipush (v := 97) hx hb dX12_putFormula_32 (by decide) ?_
  refine lv_goto (tgt := 39) hx hb dX12_putFormula_34 (by decide) ?_
  exact b_X12_putFormula_39 F hr hk K E hA _ _ _ hf _ _ _ Z hl
set_option maxRecDepth 100000 in
set_option maxHeartbeats 4000000 in
theorem c_X12_putFormula {l : Launch} {D : va_G} {ad : Nat → Nat} {cy : Nat → ClassId} {ee : EE} {n : Nat} {st : StT} {x1 : Int32} {res : StT} (hf : f_X12_putFormula n st x1 = some res) : CT l yX12_putFormula cX12_putFormula 4 none 1 24 D cy ee (wM ad cy st) (wM ad cy res) [.ref (ad 0), .int x1] (none) := by
  refine CT.of (by decide +kernel) (Nat.le_of_ble_eq_true rfl) ?_
  intro p e s m args below meth c A F hr hk K E hA Z ls hl
  have hl : lv_has ls 4 [(0, .ref (ad 0)), (1, .int x1)] := hl
  have hx := F.1
  have hb := F.2.1
  unfold f_X12_putFormula at hf
  refine lv_aload_n hx hb dX12_putFormula_0 rfl (lv_at hl 0 rfl) ?_
  refine gmX12_7 F K Z dX12_putFormula_1 ?_
  refine lv_iload_n hx hb dX12_putFormula_4 rfl (lv_at hl 1 rfl) ?_
  obtain ⟨i5, hf⟩ := if_some hf
  refine ml1 F K Z i5 dX12_putFormula_5 ?_
  refine lv_istore_n (lv' := [(2, .int (st.2.1 0 (x1).toNatClampNeg)), (0, .ref (ad 0)), (1, .int x1)]) hx hb dX12_putFormula_6 rfl hl (by decide) rfl (fun ls hl => ?_)
  refine lv_iload_n hx hb dX12_putFormula_7 rfl (lv_at hl 0 rfl) ?_
  refine lv_iconst (v := 2) hx hb dX12_putFormula_8 (by decide) ?_
  refine lv_icmp_ge (tgt := 85) hx hb dX12_putFormula_9 (by decide) (fun c9 => ?_) (fun c9 => ?_)
  · have hf := if_t c9 hf
    refine lv_iload_n hx hb dX12_putFormula_85 rfl (lv_at hl 0 rfl) ?_
    refine lv_iconst (v := 2) hx hb dX12_putFormula_86 (by decide) ?_
    refine lv_icmp_ne (tgt := 136) hx hb dX12_putFormula_87 (by decide) (fun c87 => ?_) (fun c87 => ?_)
    · have hf := if_f c87 hf
      refine lv_aload_n hx hb dX12_putFormula_136 rfl (lv_at hl 1 rfl) ?_
      refine lv_bipush (v := 40) hx hb dX12_putFormula_137 (by decide) ?_
      obtain ⟨q139, h139, hf⟩ := bind_some hf
      refine krX12_407_X12_put F K E hA Z h139 ⟨Nat.le_of_ble_eq_true rfl, Nat.le_of_ble_eq_true rfl⟩ hl.1 (Nat.le_of_ble_eq_true rfl) dX12_putFormula_139 (fun H locs Z => ?_)
      refine lv_aload_n hx hb dX12_putFormula_142 rfl (lv_at hl 1 rfl) ?_
      refine lv_iconst (v := 0) hx hb dX12_putFormula_143 (by decide) ?_
      refine lv_bipush (v := 41) hx hb dX12_putFormula_144 (by decide) ?_
      refine lv_iconst (v := 0) hx hb dX12_putFormula_146 (by decide) ?_
      refine lv_iconst (v := 0) hx hb dX12_putFormula_147 (by decide) ?_
      obtain ⟨q148, h148, hf⟩ := bind_some hf
      refine krX12_414_X12_push F K E hA Z h148 ⟨Nat.le_of_ble_eq_true rfl, Nat.le_of_ble_eq_true rfl⟩ hl.1 (Nat.le_of_ble_eq_true rfl) dX12_putFormula_148 (fun H locs Z => ?_)
      refine lv_aload_n hx hb dX12_putFormula_151 rfl (lv_at hl 1 rfl) ?_
      refine lv_iconst (v := 1) hx hb dX12_putFormula_152 (by decide) ?_
      refine lv_aload_n hx hb dX12_putFormula_153 rfl (lv_at hl 1 rfl) ?_
      refine gmX12_16 F K Z dX12_putFormula_154 ?_
      refine lv_iload_n hx hb dX12_putFormula_157 rfl (lv_at hl 2 rfl) ?_
      obtain ⟨i158, hf⟩ := if_some hf
      refine ml3 F K Z i158 dX12_putFormula_158 ?_
      refine lv_iconst (v := 0) hx hb dX12_putFormula_159 (by decide) ?_
      refine lv_iconst (v := 0) hx hb dX12_putFormula_160 (by decide) ?_
      obtain ⟨q161, h161, hf⟩ := bind_some hf
      refine krX12_414_X12_push F K E hA Z h161 ⟨Nat.le_of_ble_eq_true rfl, Nat.le_of_ble_eq_true rfl⟩ hl.1 (Nat.le_of_ble_eq_true rfl) dX12_putFormula_161 (fun H locs Z => ?_)
      refine lv_iload_n hx hb dX12_putFormula_164 rfl (lv_at hl 0 rfl) ?_
      refine lv_iconst (v := 5) hx hb dX12_putFormula_165 (by decide) ?_
      refine lv_icmp_ne (tgt := 178) hx hb dX12_putFormula_166 (by decide) (fun c166 => ?_) (fun c166 => ?_)
      · have hf := if_f c166 hf
        exact b_X12_putFormula_178 F hr hk K E hA _ _ _ hf _ _ _ Z (lv_sub hl [1, 2, 0] rfl)
      have hf := if_t c166 hf
      refine lv_aload_n hx hb dX12_putFormula_169 rfl (lv_at hl 1 rfl) ?_
      refine lv_iconst (v := 0) hx hb dX12_putFormula_170 (by decide) ?_
      refine lv_bipush (v := 62) hx hb dX12_putFormula_171 (by decide) ?_
      refine lv_iconst (v := 0) hx hb dX12_putFormula_173 (by decide) ?_
      refine lv_iconst (v := 0) hx hb dX12_putFormula_174 (by decide) ?_
      obtain ⟨q175, h175, hf⟩ := bind_some hf
      refine krX12_414_X12_push F K E hA Z h175 ⟨Nat.le_of_ble_eq_true rfl, Nat.le_of_ble_eq_true rfl⟩ hl.1 (Nat.le_of_ble_eq_true rfl) dX12_putFormula_175 (fun H locs Z => ?_)
      exact b_X12_putFormula_178 F hr hk K E hA _ _ _ hf _ _ _ Z (lv_sub hl [1, 2, 0] rfl)
    have hf := if_t c87 hf
    refine lv_iconst (v := 0) hx hb dX12_putFormula_90 (by decide) ?_
    refine lv_istore_n (lv' := [(3, .int (0 : Int32)), (2, .int (st.2.1 0 (x1).toNatClampNeg)), (0, .ref (ad 0)), (1, .int x1)]) hx hb dX12_putFormula_91 rfl hl (by decide) rfl (fun ls hl => ?_)
    exact b_X12_putFormula_92 F hr hk K E hA _ _ _ _ hf _ _ _ Z (lv_sub hl [2, 3, 0] rfl)
  have hf := if_f c9 hf
  refine lv_aload_n hx hb dX12_putFormula_12 rfl (lv_at hl 1 rfl) ?_
  refine lv_iload_n hx hb dX12_putFormula_13 rfl (lv_at hl 0 rfl) ?_
  refine lv_if_ne (tgt := 22) hx hb dX12_putFormula_14 (by decide) (fun c14 => ?_) (fun c14 => ?_)
  · have hf := if_f c14 hf
    refine lv_bipush (v := 116) hx hb dX12_putFormula_22 (by decide) ?_
    exact b_X12_putFormula_24 F hr hk K E hA _ _ _ hf _ _ _ Z (lv_sub hl [1, 0] rfl)
  have hf := if_t c14 hf
  refine lv_bipush (v := 102) hx hb dX12_putFormula_17 (by decide) ?_
  refine lv_goto (tgt := 24) hx hb dX12_putFormula_19 (by decide) ?_
  exact b_X12_putFormula_24 F hr hk K E hA _ _ _ hf _ _ _ Z (lv_sub hl [1, 0] rfl)
def f_X12_chain (n : Nat) (st : StT) (x1 : Int32) (x2 : Int32) (x3 : Int32) : Option (Int32 × StT) := if inB (st.1 32) 60000 = true then (if inB ((uA st 37 (st.1 32) x1).1 32) 60000 = true then (if inB ((uA (uA st 37 (st.1 32) x1) 38 ((uA st 37 (st.1 32) x1).1 32) x2).1 32) 60000 = true then (some ((((uF (uA (uA (uA st 37 (st.1 32) x1) 38 ((uA st 37 (st.1 32) x1).1 32) x2) 39 ((uA (uA st 37 (st.1 32) x1) 38 ((uA st 37 (st.1 32) x1).1 32) x2).1 32) x3) 32 (((uA (uA (uA st 37 (st.1 32) x1) 38 ((uA st 37 (st.1 32) x1).1 32) x2) 39 ((uA (uA st 37 (st.1 32) x1) 38 ((uA st 37 (st.1 32) x1).1 32) x2).1 32) x3).1 32) + (1 : Int32))).1 32) - (1 : Int32)), (uF (uA (uA (uA st 37 (st.1 32) x1) 38 ((uA st 37 (st.1 32) x1).1 32) x2) 39 ((uA (uA st 37 (st.1 32) x1) 38 ((uA st 37 (st.1 32) x1).1 32) x2).1 32) x3) 32 (((uA (uA (uA st 37 (st.1 32) x1) 38 ((uA st 37 (st.1 32) x1).1 32) x2) 39 ((uA (uA st 37 (st.1 32) x1) 38 ((uA st 37 (st.1 32) x1).1 32) x2).1 32) x3).1 32) + (1 : Int32))))) else none) else none) else none
theorem wd1219 : Cond.fieldLink RX12 130 "WorldProverModel" "chainUp" "[I" ∈ Gw := gT6 (List.mem_of_getElem? (i := 127) rfl) rfl
theorem wd1220 : Cond.fieldLink RX12 417 "WorldProverModel" "chains" "I" ∈ Gw := gT6 (List.mem_of_getElem? (i := 130) rfl) rfl
theorem wd1221 : Cond.fieldLink RX12 133 "WorldProverModel" "chainNumber" "[I" ∈ Gw := gT6 (List.mem_of_getElem? (i := 128) rfl) rfl
theorem wd1222 : Cond.fieldLink RX12 136 "WorldProverModel" "chainCount" "[I" ∈ Gw := gT6 (List.mem_of_getElem? (i := 129) rfl) rfl
section
variable {p : Program} {l : Launch} {e : Env} {R : Room} {s : State} {m : MethodId} {args : Array Value} {below : List Frame} {meth : Method} {c : Code} {H : Heap} {locs : List Loc} {Q : State → Prop}
variable {cc : ByteArray} {nL pc : Nat} {ls : Array Slot} {rest : List Value} {D : va_G} {A : Nat → Prop} {cw : Cond} {ad : Nat → Nat} {cy : Nat → ClassId} {ee : EE} {st : StT} {own : String}
theorem gmX12_130 (F : CallFix p m c cc nL s args (cw :: Gw) RX12) (K : va_K D vwCl (tyL cy) s) (Z : ZG D (wM ad cy st) A s H locs) (hd : decode cc pc = .ok (.getfield 130, 3)) (kk : W p l e R s m args below meth c H locs 0 0 Q (F0 m (pc + 3) ls (.ref (ad 38) :: rest))) : W p l e R s m args below meth c H locs 0 0 Q (F0 m pc ls (.ref (ad 0) :: rest)) :=
  va_get (D := D) (ci := 12) (C := RX12) (T := TX12) (N := 98) F.1 F.2.1 F.2.2.2.2 (fun w h => List.mem_cons_of_mem _ (inG_X12 w h)) F.2.2.2.1 K Z.1 0 rfl rfl 69 (by decide) (F.2.2.2.2 _ (List.mem_cons_of_mem _ wd1219)) (fun _ h => h) rfl hd kk
theorem gmX12_417 (F : CallFix p m c cc nL s args (cw :: Gw) RX12) (K : va_K D vwCl (tyL cy) s) (Z : ZG D (wM ad cy st) A s H locs) (hd : decode cc pc = .ok (.getfield 417, 3)) (kk : W p l e R s m args below meth c H locs 0 0 Q (F0 m (pc + 3) ls (.int (st.1 32) :: rest))) : W p l e R s m args below meth c H locs 0 0 Q (F0 m pc ls (.ref (ad 0) :: rest)) :=
  va_get (D := D) (ci := 12) (C := RX12) (T := TX12) (N := 98) F.1 F.2.1 F.2.2.2.2 (fun w h => List.mem_cons_of_mem _ (inG_X12 w h)) F.2.2.2.1 K Z.1 0 rfl rfl 72 (by decide) (F.2.2.2.2 _ (List.mem_cons_of_mem _ wd1220)) (fun _ h => h) rfl hd kk
theorem ms38 {i : Int32} {v : Int32} (F : CallFix p m c cc nL s args (cw :: Gw) own) (K : va_K D vwCl (tyL cy) s) (Z : ZG D (wM ad cy st) A s H locs) (hi : inB i 60000 = true) (hd : decode cc pc = .ok (.iastore, 1)) (kk : ∀ (H1 : Heap) (locs1 : List Loc), ZG D (wM ad cy (uA st 37 i v)) A s H1 locs1 → W p l e R s m args below meth c H1 locs1 0 0 Q (F0 m (pc + 1) ls rest)) : W p l e R s m args below meth c H locs 0 0 Q (F0 m pc ls (.int v :: .int i :: .ref (ad 38) :: rest)) :=
  va_iast F.1 F.2.1 K Z.1 Z.2.1 Z.2.2 38 1 rfl rfl (inB_vp hi) hd (fun H1 locs1 hP hD hS => kk H1 locs1 ⟨hP, hD, hS⟩)
theorem gmX12_133 (F : CallFix p m c cc nL s args (cw :: Gw) RX12) (K : va_K D vwCl (tyL cy) s) (Z : ZG D (wM ad cy st) A s H locs) (hd : decode cc pc = .ok (.getfield 133, 3)) (kk : W p l e R s m args below meth c H locs 0 0 Q (F0 m (pc + 3) ls (.ref (ad 39) :: rest))) : W p l e R s m args below meth c H locs 0 0 Q (F0 m pc ls (.ref (ad 0) :: rest)) :=
  va_get (D := D) (ci := 12) (C := RX12) (T := TX12) (N := 98) F.1 F.2.1 F.2.2.2.2 (fun w h => List.mem_cons_of_mem _ (inG_X12 w h)) F.2.2.2.1 K Z.1 0 rfl rfl 70 (by decide) (F.2.2.2.2 _ (List.mem_cons_of_mem _ wd1221)) (fun _ h => h) rfl hd kk
theorem ms39 {i : Int32} {v : Int32} (F : CallFix p m c cc nL s args (cw :: Gw) own) (K : va_K D vwCl (tyL cy) s) (Z : ZG D (wM ad cy st) A s H locs) (hi : inB i 60000 = true) (hd : decode cc pc = .ok (.iastore, 1)) (kk : ∀ (H1 : Heap) (locs1 : List Loc), ZG D (wM ad cy (uA st 38 i v)) A s H1 locs1 → W p l e R s m args below meth c H1 locs1 0 0 Q (F0 m (pc + 1) ls rest)) : W p l e R s m args below meth c H locs 0 0 Q (F0 m pc ls (.int v :: .int i :: .ref (ad 39) :: rest)) :=
  va_iast F.1 F.2.1 K Z.1 Z.2.1 Z.2.2 39 1 rfl rfl (inB_vp hi) hd (fun H1 locs1 hP hD hS => kk H1 locs1 ⟨hP, hD, hS⟩)
theorem gmX12_136 (F : CallFix p m c cc nL s args (cw :: Gw) RX12) (K : va_K D vwCl (tyL cy) s) (Z : ZG D (wM ad cy st) A s H locs) (hd : decode cc pc = .ok (.getfield 136, 3)) (kk : W p l e R s m args below meth c H locs 0 0 Q (F0 m (pc + 3) ls (.ref (ad 40) :: rest))) : W p l e R s m args below meth c H locs 0 0 Q (F0 m pc ls (.ref (ad 0) :: rest)) :=
  va_get (D := D) (ci := 12) (C := RX12) (T := TX12) (N := 98) F.1 F.2.1 F.2.2.2.2 (fun w h => List.mem_cons_of_mem _ (inG_X12 w h)) F.2.2.2.1 K Z.1 0 rfl rfl 71 (by decide) (F.2.2.2.2 _ (List.mem_cons_of_mem _ wd1222)) (fun _ h => h) rfl hd kk
theorem ms40 {i : Int32} {v : Int32} (F : CallFix p m c cc nL s args (cw :: Gw) own) (K : va_K D vwCl (tyL cy) s) (Z : ZG D (wM ad cy st) A s H locs) (hi : inB i 60000 = true) (hd : decode cc pc = .ok (.iastore, 1)) (kk : ∀ (H1 : Heap) (locs1 : List Loc), ZG D (wM ad cy (uA st 39 i v)) A s H1 locs1 → W p l e R s m args below meth c H1 locs1 0 0 Q (F0 m (pc + 1) ls rest)) : W p l e R s m args below meth c H locs 0 0 Q (F0 m pc ls (.int v :: .int i :: .ref (ad 40) :: rest)) :=
  va_iast F.1 F.2.1 K Z.1 Z.2.1 Z.2.2 40 1 rfl rfl (inB_vp hi) hd (fun H1 locs1 hP hD hS => kk H1 locs1 ⟨hP, hD, hS⟩)
theorem pmX12_417 {v : Int32} (F : CallFix p m c cc nL s args (cw :: Gw) RX12) (K : va_K D vwCl (tyL cy) s) (Z : ZG D (wM ad cy st) A s H locs) (hd : decode cc pc = .ok (.putfield 417, 3)) (kk : ∀ (H1 : Heap) (locs1 : List Loc), ZG D (wM ad cy (uF st 32 v)) A s H1 locs1 → W p l e R s m args below meth c H1 locs1 0 0 Q (F0 m (pc + 3) ls rest)) : W p l e R s m args below meth c H locs 0 0 Q (F0 m pc ls (.int v :: .ref (ad 0) :: rest)) :=
  va_put (D := D) (ci := 12) (v := .int v) (ty := .int) (C := RX12) (T := TX12) (N := 98) F.1 F.2.1 F.2.2.2.2 (fun w h => List.mem_cons_of_mem _ (inG_X12 w h)) tyX12 tyX12_ok nmX12 F.2.2.2.1 K Z.1 Z.2.1 Z.2.2 0 rfl rfl 72 (by decide) (F.2.2.2.2 _ (List.mem_cons_of_mem _ wd1220)) (fun _ h => h) rfl (by decide +kernel) rfl rfl (Nat.le_of_ble_eq_true rfl) hd (fun H1 locs1 hP hD hS => kk H1 locs1 ⟨hP, hD, hS⟩)
end
set_option maxRecDepth 100000 in
set_option maxHeartbeats 4000000 in
theorem c_X12_chain {l : Launch} {D : va_G} {ad : Nat → Nat} {cy : Nat → ClassId} {ee : EE} {n : Nat} {st : StT} {x1 : Int32} {x2 : Int32} {x3 : Int32} {res : (Int32 × StT)} (hf : f_X12_chain n st x1 x2 x3 = some res) : CT l yX12_chain cX12_chain 4 (some .int) 0 0 D cy ee (wM ad cy st) (wM ad cy res.2) [.ref (ad 0), .int x1, .int x2, .int x3] (some (.int res.1)) := by
  refine CT.of (by decide +kernel) (Nat.le_of_ble_eq_true rfl) ?_
  intro p e s m args below meth c A F hr hk K E hA Z ls hl
  have hl : lv_has ls 4 [(0, .ref (ad 0)), (1, .int x1), (2, .int x2), (3, .int x3)] := hl
  have hx := F.1
  have hb := F.2.1
  unfold f_X12_chain at hf
  refine lv_aload_n hx hb dX12_chain_0 rfl (lv_at hl 0 rfl) ?_
  refine gmX12_130 F K Z dX12_chain_1 ?_
  refine lv_aload_n hx hb dX12_chain_4 rfl (lv_at hl 0 rfl) ?_
  refine gmX12_417 F K Z dX12_chain_5 ?_
  refine lv_iload_n hx hb dX12_chain_8 rfl (lv_at hl 1 rfl) ?_
  obtain ⟨i9, hf⟩ := if_some hf
  refine ms38 F K Z i9 dX12_chain_9 (fun H locs Z => ?_)
  refine lv_aload_n hx hb dX12_chain_10 rfl (lv_at hl 0 rfl) ?_
  refine gmX12_133 F K Z dX12_chain_11 ?_
  refine lv_aload_n hx hb dX12_chain_14 rfl (lv_at hl 0 rfl) ?_
  refine gmX12_417 F K Z dX12_chain_15 ?_
  refine lv_iload_n hx hb dX12_chain_18 rfl (lv_at hl 2 rfl) ?_
  obtain ⟨i19, hf⟩ := if_some hf
  refine ms39 F K Z i19 dX12_chain_19 (fun H locs Z => ?_)
  refine lv_aload_n hx hb dX12_chain_20 rfl (lv_at hl 0 rfl) ?_
  refine gmX12_136 F K Z dX12_chain_21 ?_
  refine lv_aload_n hx hb dX12_chain_24 rfl (lv_at hl 0 rfl) ?_
  refine gmX12_417 F K Z dX12_chain_25 ?_
  refine lv_iload_n hx hb dX12_chain_28 rfl (lv_at hl 3 rfl) ?_
  obtain ⟨i29, hf⟩ := if_some hf
  refine ms40 F K Z i29 dX12_chain_29 (fun H locs Z => ?_)
  refine lv_aload_n hx hb dX12_chain_30 rfl (lv_at hl 0 rfl) ?_
  refine lv_dup hx hb dX12_chain_31 rfl ?_
  refine gmX12_417 F K Z dX12_chain_32 ?_
  refine lv_iconst (v := 1) hx hb dX12_chain_35 (by decide) ?_
  refine lv_iadd hx hb dX12_chain_36 ?_
  refine pmX12_417 F K Z dX12_chain_37 (fun H locs Z => ?_)
  refine lv_aload_n hx hb dX12_chain_40 rfl (lv_at hl 0 rfl) ?_
  refine gmX12_417 F K Z dX12_chain_41 ?_
  refine lv_iconst (v := 1) hx hb dX12_chain_44 (by decide) ?_
  refine lv_isub hx hb dX12_chain_45 ?_
  have hf := Option.some.inj hf
  subst hf
  exact ret_i F hr hk Z dX12_chain_46
def f_X12_cutChain_2 (n : Nat) : Nat → StT → Int32 → Int32 → Option (Int32 × StT)
  | 0, _, _, _ => none
  | k + 1, st, x2, x3 => if x3 < 0 then (some (x3, st)) else (if inB x3 60000 = true then (if (st.2.1 39 (x3).toNatClampNeg) ≤ x2 then (some (x3, st)) else (if inB x3 60000 = true then (f_X12_cutChain_2 n k st x2 (st.2.1 37 (x3).toNatClampNeg)) else none)) else none)
def f_X12_cutChain (n : Nat) (st : StT) (x1 : Int32) (x2 : Int32) : Option (Int32 × StT) := f_X12_cutChain_2 n n st x2 x1
section
variable {p : Program} {l : Launch} {e : Env} {R : Room} {s : State} {m : MethodId} {args : Array Value} {below : List Frame} {meth : Method} {c : Code} {H : Heap} {locs : List Loc} {Q : State → Prop}
variable {cc : ByteArray} {nL pc : Nat} {ls : Array Slot} {rest : List Value} {D : va_G} {A : Nat → Prop} {cw : Cond} {ad : Nat → Nat} {cy : Nat → ClassId} {ee : EE} {st : StT} {own : String}
theorem ml40 {i : Int32} (F : CallFix p m c cc nL s args (cw :: Gw) own) (K : va_K D vwCl (tyL cy) s) (Z : ZG D (wM ad cy st) A s H locs) (hi : inB i 60000 = true) (hd : decode cc pc = .ok (.iaload, 1)) (kk : W p l e R s m args below meth c H locs 0 0 Q (F0 m (pc + 1) ls (.int (st.2.1 39 i.toNatClampNeg) :: rest))) : W p l e R s m args below meth c H locs 0 0 Q (F0 m pc ls (.int i :: .ref (ad 40) :: rest)) :=
  va_iald F.1 F.2.1 K Z.1 40 1 rfl rfl (inB_vp hi) hd kk
theorem ml38 {i : Int32} (F : CallFix p m c cc nL s args (cw :: Gw) own) (K : va_K D vwCl (tyL cy) s) (Z : ZG D (wM ad cy st) A s H locs) (hi : inB i 60000 = true) (hd : decode cc pc = .ok (.iaload, 1)) (kk : W p l e R s m args below meth c H locs 0 0 Q (F0 m (pc + 1) ls (.int (st.2.1 37 i.toNatClampNeg) :: rest))) : W p l e R s m args below meth c H locs 0 0 Q (F0 m pc ls (.int i :: .ref (ad 38) :: rest)) :=
  va_iald F.1 F.2.1 K Z.1 38 1 rfl rfl (inB_vp hi) hd kk
end
set_option maxRecDepth 100000 in
set_option maxHeartbeats 4000000 in
theorem b_X12_cutChain_2 {p : Program} {l : Launch} {e : Env} {s : State} {m : MethodId} {args : Array Value} {below : List Frame} {meth : Method} {c : Code} {D : va_G} {A : Nat → Prop} {ad : Nat → Nat} {cy : Nat → ClassId} {ee : EE} {n : Nat} {res : (Int32 × StT)} (F : CallFix p m c cX12_cutChain 4 s args (Cond.code yX12_cutChain cX12_cutChain 4 (some .int) :: Gw) yX12_cutChain.cls) (hr : meth.sig.returnType = (some .int)) (hk : meth.locks = false) (K : va_K D vwCl (tyL cy) s) (E : EV ee A s s.heap) (hA : ∀ q, s.heap.size ≤ q → A q) : ∀ (k : Nat) (st : StT) (x2 : Int32) (x3 : Int32), f_X12_cutChain_2 n k st x2 x3 = some res → ∀ (H : Heap) (locs : List Loc) (ls : Array Slot), ZG D (wM ad cy st) A s H locs → lv_has ls 4 [(0, .ref (ad 0)), (2, .int x2), (3, .int x3)] → W p l e { frames := 0, cells := 0, slots := 0, locals := 0 } s m args below meth c H locs 0 0 (MQ below (QC D (some (.int res.1)) (wM ad cy res.2) A) args s 0 0 A) (F0 m 2 ls []) := by
  have hx := F.1
  have hb := F.2.1
  intro k
  induction k with
  | zero =>
    intro st x2 x3 hf
    exact absurd hf (by simp [f_X12_cutChain_2])
  | succ k ih =>
    intro st x2 x3 hf H locs ls Z hl
    rw [f_X12_cutChain_2] at hf
    refine lv_iload_n hx hb dX12_cutChain_2 rfl (lv_at hl 2 rfl) ?_
    refine lv_if_lt (tgt := 26) hx hb dX12_cutChain_3 (by decide) (fun c3 => ?_) (fun c3 => ?_)
    · have hf := if_t c3 hf
      refine lv_iload_n hx hb dX12_cutChain_26 rfl (lv_at hl 2 rfl) ?_
      have hf := Option.some.inj hf
      subst hf
      exact ret_i F hr hk Z dX12_cutChain_27
    have hf := if_f c3 hf
    refine lv_aload_n hx hb dX12_cutChain_6 rfl (lv_at hl 0 rfl) ?_
    refine gmX12_136 F K Z dX12_cutChain_7 ?_
    refine lv_iload_n hx hb dX12_cutChain_10 rfl (lv_at hl 2 rfl) ?_
    obtain ⟨i11, hf⟩ := if_some hf
    refine ml40 F K Z i11 dX12_cutChain_11 ?_
    refine lv_iload_n hx hb dX12_cutChain_12 rfl (lv_at hl 1 rfl) ?_
    refine lv_icmp_le (tgt := 26) hx hb dX12_cutChain_13 (by decide) (fun c13 => ?_) (fun c13 => ?_)
    · have hf := if_t c13 hf
      refine lv_iload_n hx hb dX12_cutChain_26 rfl (lv_at hl 2 rfl) ?_
      have hf := Option.some.inj hf
      subst hf
      exact ret_i F hr hk Z dX12_cutChain_27
    have hf := if_f c13 hf
    refine lv_aload_n hx hb dX12_cutChain_16 rfl (lv_at hl 0 rfl) ?_
    refine gmX12_130 F K Z dX12_cutChain_17 ?_
    refine lv_iload_n hx hb dX12_cutChain_20 rfl (lv_at hl 2 rfl) ?_
    obtain ⟨i21, hf⟩ := if_some hf
    refine ml38 F K Z i21 dX12_cutChain_21 ?_
    refine lv_istore_n (lv' := [(3, .int (st.2.1 37 (x3).toNatClampNeg)), (0, .ref (ad 0)), (2, .int x2)]) hx hb dX12_cutChain_22 rfl hl (by decide) rfl (fun ls hl => ?_)
    refine lv_goto (tgt := 2) hx hb dX12_cutChain_23 (by decide) ?_
    exact ih _ _ _ hf _ _ _ Z (lv_sub hl [1, 2, 0] rfl)
set_option maxRecDepth 100000 in
set_option maxHeartbeats 4000000 in
theorem c_X12_cutChain {l : Launch} {D : va_G} {ad : Nat → Nat} {cy : Nat → ClassId} {ee : EE} {n : Nat} {st : StT} {x1 : Int32} {x2 : Int32} {res : (Int32 × StT)} (hf : f_X12_cutChain n st x1 x2 = some res) : CT l yX12_cutChain cX12_cutChain 4 (some .int) 0 0 D cy ee (wM ad cy st) (wM ad cy res.2) [.ref (ad 0), .int x1, .int x2] (some (.int res.1)) := by
  refine CT.of (by decide +kernel) (Nat.le_of_ble_eq_true rfl) ?_
  intro p e s m args below meth c A F hr hk K E hA Z ls hl
  have hl : lv_has ls 4 [(0, .ref (ad 0)), (1, .int x1), (2, .int x2)] := hl
  have hx := F.1
  have hb := F.2.1
  unfold f_X12_cutChain at hf
  refine lv_iload_n hx hb dX12_cutChain_0 rfl (lv_at hl 1 rfl) ?_
  refine lv_istore_n (lv' := [(3, .int x1), (0, .ref (ad 0)), (1, .int x1), (2, .int x2)]) hx hb dX12_cutChain_1 rfl hl (by decide) rfl (fun ls hl => ?_)
  exact b_X12_cutChain_2 F hr hk K E hA _ _ _ _ hf _ _ _ Z (lv_sub hl [1, 3, 0] rfl)
def f_X12_putTerm_281 (n : Nat) (st : StT) (x1 : Int32) (x2 : Int32) (x3 : Int32) : Option StT := if inB x1 60000 = true then ((f_X12_push n st (2 : Int32) (st.2.1 16 (x1).toNatClampNeg) x2 x3).bind fun q291 => (some q291)) else none
def f_X12_putTerm_122 (n : Nat) (st : StT) (x1 : Int32) (x2 : Int32) (x3 : Int32) (x4 : Int32) (y0 : Int32) : Option StT := if x4 = (76 : Int32) then (if inB x1 60000 = true then ((f_X12_chain n st x2 x3 (y0 + (1 : Int32))).bind fun q146 => ((f_X12_push n q146.2 (2 : Int32) (st.2.1 16 (x1).toNatClampNeg) q146.1 (x3 + (1 : Int32))).bind fun q152 => ((f_X12_push n q152 (0 : Int32) (44 : Int32) (0 : Int32) (0 : Int32)).bind fun q161 => (if inB x1 60000 = true then ((f_X12_push n q161 (1 : Int32) (q161.2.1 15 (x1).toNatClampNeg) (0 : Int32) (0 : Int32)).bind fun q174 => (some q174)) else none)))) else none) else (if x4 = (67 : Int32) then ((f_X12_chain n st x2 x3 (y0 + (1 : Int32))).bind fun q192 => (if inB x1 60000 = true then ((f_X12_push n q192.2 (2 : Int32) (q192.2.2.1 18 (x1).toNatClampNeg) q192.1 (x3 + (1 : Int32))).bind fun q210 => ((f_X12_push n q210 (0 : Int32) (44 : Int32) (0 : Int32) (0 : Int32)).bind fun q219 => (if inB x1 60000 = true then ((f_X12_push n q219 (2 : Int32) (q219.2.1 17 (x1).toNatClampNeg) q192.1 (x3 + (1 : Int32))).bind fun q235 => ((f_X12_push n q235 (0 : Int32) (44 : Int32) (0 : Int32) (0 : Int32)).bind fun q244 => (f_X12_putTerm_281 n q244 x1 x2 x3))) else none))) else none)) else (if inB x1 60000 = true then (if (st.2.1 17 (x1).toNatClampNeg) < 0 then (f_X12_putTerm_281 n st x1 x2 x3) else (if inB x1 60000 = true then ((f_X12_push n st (2 : Int32) (st.2.1 17 (x1).toNatClampNeg) x2 x3).bind fun q269 => ((f_X12_push n q269 (0 : Int32) (44 : Int32) (0 : Int32) (0 : Int32)).bind fun q278 => (f_X12_putTerm_281 n q278 x1 x2 x3))) else none)) else none))
def f_X12_putTerm (n : Nat) (st : StT) (x1 : Int32) (x2 : Int32) (x3 : Int32) : Option StT := if inB x1 60000 = true then (if (st.2.1 14 (x1).toNatClampNeg) = (77 : Int32) then (if inB x1 60000 = true then (if inB x1 60000 = true then ((f_X12_cutChain n st x2 (st.2.1 15 (x1).toNatClampNeg)).bind fun q31 => ((f_X12_push n q31.2 (2 : Int32) (st.2.1 16 (x1).toNatClampNeg) q31.1 x3).bind fun q35 => (some q35))) else none) else none) else (if (st.2.1 14 (x1).toNatClampNeg) = (72 : Int32) then (if inB x1 60000 = true then ((f_X12_cutChain n st x2 ((st.2.1 15 (x1).toNatClampNeg) + (1 : Int32))).bind fun q56 => ((f_X12_put n q56.2 (104 : Int32)).bind fun q64 => (if inB q56.1 60000 = true then ((f_X12_putNumber n q64 (q64.2.1 38 (q56.1).toNatClampNeg)).bind fun q75 => (some q75)) else none))) else none) else ((f_X12_put n st (st.2.1 14 (x1).toNatClampNeg)).bind fun q82 => (if (st.2.1 14 (x1).toNatClampNeg) = (84 : Int32) then (some q82) else ((f_X12_put n q82 (40 : Int32)).bind fun q96 => ((f_X12_push n q96 (0 : Int32) (41 : Int32) (0 : Int32) (0 : Int32)).bind fun q105 => (if 0 ≤ x2 then (if inB x2 60000 = true then (f_X12_putTerm_122 n q105 x1 x2 x3 (st.2.1 14 (x1).toNatClampNeg) (q105.2.1 39 (x2).toNatClampNeg)) else none) else (f_X12_putTerm_122 n q105 x1 x2 x3 (st.2.1 14 (x1).toNatClampNeg) (0 : Int32))))))))) else none
theorem wd1223 : Cond.methodLink RX12 423 yX12_putNumber ∈ Gw := gT7 (List.mem_of_getElem? (i := 142) rfl) rfl
theorem wd1224 : Cond.code yX12_putNumber prog_14_method_44_code 3 none ∈ Gw := gT7 (List.mem_of_getElem? (i := 145) rfl) rfl
theorem wd1225 : Cond.instanceMethod yX12_putNumber ∈ Gw := gT7 (List.mem_of_getElem? (i := 144) rfl) rfl
theorem wd1226 : Cond.selects RX12 yX12_putNumber yX12_putNumber ∈ Gw := gP5 (q := (yX12_putNumber, 98)) (List.mem_of_getElem? (i := 11) rfl)
theorem wd1227 : Cond.methodLink RX12 420 yX12_cutChain ∈ Gw := gT7 (List.mem_of_getElem? (i := 138) rfl) rfl
theorem wd1228 : Cond.code yX12_cutChain prog_14_method_48_code 4 (some .int) ∈ Gw := gT7 (List.mem_of_getElem? (i := 141) rfl) rfl
theorem wd1229 : Cond.instanceMethod yX12_cutChain ∈ Gw := gT7 (List.mem_of_getElem? (i := 140) rfl) rfl
theorem wd1230 : Cond.selects RX12 yX12_cutChain yX12_cutChain ∈ Gw := gP5 (q := (yX12_cutChain, 98)) (List.mem_of_getElem? (i := 10) rfl)
theorem wd1231 : Cond.methodLink RX12 426 yX12_chain ∈ Gw := gT7 (List.mem_of_getElem? (i := 146) rfl) rfl
theorem wd1232 : Cond.code yX12_chain prog_14_method_47_code 4 (some .int) ∈ Gw := gT7 (List.mem_of_getElem? (i := 149) rfl) rfl
theorem wd1233 : Cond.instanceMethod yX12_chain ∈ Gw := gT7 (List.mem_of_getElem? (i := 148) rfl) rfl
theorem wd1234 : Cond.selects RX12 yX12_chain yX12_chain ∈ Gw := gP5 (q := (yX12_chain, 98)) (List.mem_of_getElem? (i := 12) rfl)
section
variable {p : Program} {l : Launch} {e : Env} {R : Room} {s : State} {m : MethodId} {args : Array Value} {below : List Frame} {meth : Method} {c : Code} {H : Heap} {locs : List Loc} {Q : State → Prop}
variable {cc : ByteArray} {nL pc : Nat} {ls : Array Slot} {rest : List Value} {D : va_G} {A : Nat → Prop} {cw : Cond} {ad : Nat → Nat} {cy : Nat → ClassId} {ee : EE} {st : StT} {own : String}
theorem ml15 {i : Int32} (F : CallFix p m c cc nL s args (cw :: Gw) own) (K : va_K D vwCl (tyL cy) s) (Z : ZG D (wM ad cy st) A s H locs) (hi : inB i 60000 = true) (hd : decode cc pc = .ok (.iaload, 1)) (kk : W p l e R s m args below meth c H locs 0 0 Q (F0 m (pc + 1) ls (.int (st.2.1 14 i.toNatClampNeg) :: rest))) : W p l e R s m args below meth c H locs 0 0 Q (F0 m pc ls (.int i :: .ref (ad 15) :: rest)) :=
  va_iald F.1 F.2.1 K Z.1 15 1 rfl rfl (inB_vp hi) hd kk
theorem ml16 {i : Int32} (F : CallFix p m c cc nL s args (cw :: Gw) own) (K : va_K D vwCl (tyL cy) s) (Z : ZG D (wM ad cy st) A s H locs) (hi : inB i 60000 = true) (hd : decode cc pc = .ok (.iaload, 1)) (kk : W p l e R s m args below meth c H locs 0 0 Q (F0 m (pc + 1) ls (.int (st.2.1 15 i.toNatClampNeg) :: rest))) : W p l e R s m args below meth c H locs 0 0 Q (F0 m pc ls (.int i :: .ref (ad 16) :: rest)) :=
  va_iald F.1 F.2.1 K Z.1 16 1 rfl rfl (inB_vp hi) hd kk
theorem ml39 {i : Int32} (F : CallFix p m c cc nL s args (cw :: Gw) own) (K : va_K D vwCl (tyL cy) s) (Z : ZG D (wM ad cy st) A s H locs) (hi : inB i 60000 = true) (hd : decode cc pc = .ok (.iaload, 1)) (kk : W p l e R s m args below meth c H locs 0 0 Q (F0 m (pc + 1) ls (.int (st.2.1 38 i.toNatClampNeg) :: rest))) : W p l e R s m args below meth c H locs 0 0 Q (F0 m pc ls (.int i :: .ref (ad 39) :: rest)) :=
  va_iald F.1 F.2.1 K Z.1 39 1 rfl rfl (inB_vp hi) hd kk
theorem ml17 {i : Int32} (F : CallFix p m c cc nL s args (cw :: Gw) own) (K : va_K D vwCl (tyL cy) s) (Z : ZG D (wM ad cy st) A s H locs) (hi : inB i 60000 = true) (hd : decode cc pc = .ok (.iaload, 1)) (kk : W p l e R s m args below meth c H locs 0 0 Q (F0 m (pc + 1) ls (.int (st.2.1 16 i.toNatClampNeg) :: rest))) : W p l e R s m args below meth c H locs 0 0 Q (F0 m pc ls (.int i :: .ref (ad 17) :: rest)) :=
  va_iald F.1 F.2.1 K Z.1 17 1 rfl rfl (inB_vp hi) hd kk
theorem ml18 {i : Int32} (F : CallFix p m c cc nL s args (cw :: Gw) own) (K : va_K D vwCl (tyL cy) s) (Z : ZG D (wM ad cy st) A s H locs) (hi : inB i 60000 = true) (hd : decode cc pc = .ok (.iaload, 1)) (kk : W p l e R s m args below meth c H locs 0 0 Q (F0 m (pc + 1) ls (.int (st.2.1 17 i.toNatClampNeg) :: rest))) : W p l e R s m args below meth c H locs 0 0 Q (F0 m pc ls (.int i :: .ref (ad 18) :: rest)) :=
  va_iald F.1 F.2.1 K Z.1 18 1 rfl rfl (inB_vp hi) hd kk
theorem ml19 {i : Int32} (F : CallFix p m c cc nL s args (cw :: Gw) own) (K : va_K D vwCl (tyL cy) s) (Z : ZG D (wM ad cy st) A s H locs) (hi : inB i 60000 = true) (hd : decode cc pc = .ok (.iaload, 1)) (kk : W p l e R s m args below meth c H locs 0 0 Q (F0 m (pc + 1) ls (.int (st.2.1 18 i.toNatClampNeg) :: rest))) : W p l e R s m args below meth c H locs 0 0 Q (F0 m pc ls (.int i :: .ref (ad 19) :: rest)) :=
  va_iald F.1 F.2.1 K Z.1 19 1 rfl rfl (inB_vp hi) hd kk
theorem krX12_423_X12_putNumber {n : Nat} {a0 : Int32} {q : StT} (F : CallFix p m c cc nL s args (cw :: Gw) RX12) (K : va_K D vwCl (tyL cy) s) (E : EV ee A s s.heap) (hA : ∀ q, s.heap.size ≤ q → A q) (Z : ZG D (wM ad cy st) A s H locs) (hf : f_X12_putNumber n st a0 = some q) (hR : 2 ≤ R.frames ∧ 43 ≤ R.locals) (hl : ls.size = nL) (hst : (rest.map fun v => v.category).sum ≤ 8) (hd : decode cc pc = .ok (.invokevirtual 423, 3)) (kk : ∀ (H1 : Heap) (locs1 : List Loc), ZG D (wM ad cy q) A s H1 locs1 → W p l e R s m args below meth c H1 locs1 0 0 Q (F0 m (pc + 3) ls (rest))) : W p l e R s m args below meth c H locs 0 0 Q (F0 m pc ls (.int a0 :: .ref (ad 0) :: rest)) :=
  call_V (q := (RX12, TX12, 98)) (n := 1) (As := [.int a0]) (rv := none) 0 12 F K E hA Z (c_X12_putNumber (l := l) (D := D) (ad := ad) (cy := cy) (ee := ee) hf) ⟨wd1224, wd1223, wd1225, wd1226, wd1008⟩ (by decide +kernel) rfl rfl hR rfl hl hst hd kk
theorem krX12_420_X12_cutChain {n : Nat} {a0 : Int32} {a1 : Int32} {q : (Int32 × StT)} (F : CallFix p m c cc nL s args (cw :: Gw) RX12) (K : va_K D vwCl (tyL cy) s) (E : EV ee A s s.heap) (hA : ∀ q, s.heap.size ≤ q → A q) (Z : ZG D (wM ad cy st) A s H locs) (hf : f_X12_cutChain n st a0 a1 = some q) (hR : 1 ≤ R.frames ∧ 23 ≤ R.locals) (hl : ls.size = nL) (hst : (rest.map fun v => v.category).sum ≤ 8) (hd : decode cc pc = .ok (.invokevirtual 420, 3)) (kk : ∀ (H1 : Heap) (locs1 : List Loc), ZG D (wM ad cy q.2) A s H1 locs1 → W p l e R s m args below meth c H1 locs1 0 0 Q (F0 m (pc + 3) ls (.int q.1 :: rest))) : W p l e R s m args below meth c H locs 0 0 Q (F0 m pc ls (.int a1 :: .int a0 :: .ref (ad 0) :: rest)) :=
  call_V (q := (RX12, TX12, 98)) (n := 2) (As := [.int a0, .int a1]) (rv := some (.int q.1)) 0 12 F K E hA Z (c_X12_cutChain (l := l) (D := D) (ad := ad) (cy := cy) (ee := ee) hf) ⟨wd1228, wd1227, wd1229, wd1230, wd1008⟩ (by decide +kernel) rfl rfl hR rfl hl hst hd kk
theorem krX12_426_X12_chain {n : Nat} {a0 : Int32} {a1 : Int32} {a2 : Int32} {q : (Int32 × StT)} (F : CallFix p m c cc nL s args (cw :: Gw) RX12) (K : va_K D vwCl (tyL cy) s) (E : EV ee A s s.heap) (hA : ∀ q, s.heap.size ≤ q → A q) (Z : ZG D (wM ad cy st) A s H locs) (hf : f_X12_chain n st a0 a1 a2 = some q) (hR : 1 ≤ R.frames ∧ 23 ≤ R.locals) (hl : ls.size = nL) (hst : (rest.map fun v => v.category).sum ≤ 8) (hd : decode cc pc = .ok (.invokevirtual 426, 3)) (kk : ∀ (H1 : Heap) (locs1 : List Loc), ZG D (wM ad cy q.2) A s H1 locs1 → W p l e R s m args below meth c H1 locs1 0 0 Q (F0 m (pc + 3) ls (.int q.1 :: rest))) : W p l e R s m args below meth c H locs 0 0 Q (F0 m pc ls (.int a2 :: .int a1 :: .int a0 :: .ref (ad 0) :: rest)) :=
  call_V (q := (RX12, TX12, 98)) (n := 3) (As := [.int a0, .int a1, .int a2]) (rv := some (.int q.1)) 0 12 F K E hA Z (c_X12_chain (l := l) (D := D) (ad := ad) (cy := cy) (ee := ee) hf) ⟨wd1232, wd1231, wd1233, wd1234, wd1008⟩ (by decide +kernel) rfl rfl hR rfl hl hst hd kk
end
set_option maxRecDepth 100000 in
set_option maxHeartbeats 4000000 in
theorem b_X12_putTerm_281 {p : Program} {l : Launch} {e : Env} {s : State} {m : MethodId} {args : Array Value} {below : List Frame} {meth : Method} {c : Code} {D : va_G} {A : Nat → Prop} {ad : Nat → Nat} {cy : Nat → ClassId} {ee : EE} {n : Nat} {res : StT} (F : CallFix p m c cX12_putTerm 7 s args (Cond.code yX12_putTerm cX12_putTerm 7 none :: Gw) yX12_putTerm.cls) (hr : meth.sig.returnType = none) (hk : meth.locks = false) (K : va_K D vwCl (tyL cy) s) (E : EV ee A s s.heap) (hA : ∀ q, s.heap.size ≤ q → A q) : ∀ (st : StT) (x1 : Int32) (x2 : Int32) (x3 : Int32), f_X12_putTerm_281 n st x1 x2 x3 = some res → ∀ (H : Heap) (locs : List Loc) (ls : Array Slot), ZG D (wM ad cy st) A s H locs → lv_has ls 7 [(0, .ref (ad 0)), (1, .int x1), (2, .int x2), (3, .int x3)] → W p l e { frames := 2, cells := 0, slots := 0, locals := 43 } s m args below meth c H locs 0 0 (MQ below (QC D (none) (wM ad cy res) A) args s 0 0 A) (F0 m 281 ls []) := by
  have hx := F.1
  have hb := F.2.1
  intro st x1 x2 x3 hf H locs ls Z hl
  unfold f_X12_putTerm_281 at hf
  refine lv_aload_n hx hb dX12_putTerm_281 rfl (lv_at hl 0 rfl) ?_
  refine lv_iconst (v := 2) hx hb dX12_putTerm_282 (by decide) ?_
  refine lv_aload_n hx hb dX12_putTerm_283 rfl (lv_at hl 0 rfl) ?_
  refine gmX12_64 F K Z dX12_putTerm_284 ?_
  refine lv_iload_n hx hb dX12_putTerm_287 rfl (lv_at hl 1 rfl) ?_
  obtain ⟨i288, hf⟩ := if_some hf
  refine ml17 F K Z i288 dX12_putTerm_288 ?_
  refine lv_iload_n hx hb dX12_putTerm_289 rfl (lv_at hl 2 rfl) ?_
  refine lv_iload_n hx hb dX12_putTerm_290 rfl (lv_at hl 3 rfl) ?_
  obtain ⟨q291, h291, hf⟩ := bind_some hf
  refine krX12_414_X12_push F K E hA Z h291 ⟨Nat.le_of_ble_eq_true rfl, Nat.le_of_ble_eq_true rfl⟩ hl.1 (Nat.le_of_ble_eq_true rfl) dX12_putTerm_291 (fun H locs Z => ?_)
  have hf := Option.some.inj hf
  subst hf
  exact ret_v F hr hk Z dX12_putTerm_294
set_option maxRecDepth 100000 in
set_option maxHeartbeats 4000000 in
theorem b_X12_putTerm_122 {p : Program} {l : Launch} {e : Env} {s : State} {m : MethodId} {args : Array Value} {below : List Frame} {meth : Method} {c : Code} {D : va_G} {A : Nat → Prop} {ad : Nat → Nat} {cy : Nat → ClassId} {ee : EE} {n : Nat} {res : StT} (F : CallFix p m c cX12_putTerm 7 s args (Cond.code yX12_putTerm cX12_putTerm 7 none :: Gw) yX12_putTerm.cls) (hr : meth.sig.returnType = none) (hk : meth.locks = false) (K : va_K D vwCl (tyL cy) s) (E : EV ee A s s.heap) (hA : ∀ q, s.heap.size ≤ q → A q) : ∀ (st : StT) (x1 : Int32) (x2 : Int32) (x3 : Int32) (x4 : Int32) (y0 : Int32), f_X12_putTerm_122 n st x1 x2 x3 x4 y0 = some res → ∀ (H : Heap) (locs : List Loc) (ls : Array Slot), ZG D (wM ad cy st) A s H locs → lv_has ls 7 [(0, .ref (ad 0)), (1, .int x1), (2, .int x2), (3, .int x3), (4, .int x4)] → W p l e { frames := 2, cells := 0, slots := 0, locals := 43 } s m args below meth c H locs 0 0 (MQ below (QC D (none) (wM ad cy res) A) args s 0 0 A) (F0 m 122 ls [.int y0]) := by
  have hx := F.1
  have hb := F.2.1
  intro st x1 x2 x3 x4 y0 hf H locs ls Z hl
  unfold f_X12_putTerm_122 at hf
  refine lv_istore (lv' := [(5, .int y0), (0, .ref (ad 0)), (1, .int x1), (2, .int x2), (3, .int x3), (4, .int x4)]) hx hb dX12_putTerm_122 hl (by decide) rfl (fun ls hl => ?_)
  refine lv_iload hx hb dX12_putTerm_124 (lv_at hl 5 rfl) ?_
  refine lv_bipush (v := 76) hx hb dX12_putTerm_126 (by decide) ?_
  refine lv_icmp_ne (tgt := 178) hx hb dX12_putTerm_128 (by decide) (fun c128 => ?_) (fun c128 => ?_)
  · have hf := if_f c128 hf
    refine lv_iload hx hb dX12_putTerm_178 (lv_at hl 5 rfl) ?_
    refine lv_bipush (v := 67) hx hb dX12_putTerm_180 (by decide) ?_
    refine lv_icmp_ne (tgt := 250) hx hb dX12_putTerm_182 (by decide) (fun c182 => ?_) (fun c182 => ?_)
    · have hf := if_f c182 hf
      refine lv_aload_n hx hb dX12_putTerm_250 rfl (lv_at hl 1 rfl) ?_
      refine gmX12_67 F K Z dX12_putTerm_251 ?_
      refine lv_iload_n hx hb dX12_putTerm_254 rfl (lv_at hl 2 rfl) ?_
      obtain ⟨i255, hf⟩ := if_some hf
      refine ml18 F K Z i255 dX12_putTerm_255 ?_
      refine lv_if_lt (tgt := 281) hx hb dX12_putTerm_256 (by decide) (fun c256 => ?_) (fun c256 => ?_)
      · have hf := if_t c256 hf
        exact b_X12_putTerm_281 F hr hk K E hA _ _ _ _ hf _ _ _ Z (lv_sub hl [1, 2, 3, 4] rfl)
      have hf := if_f c256 hf
      refine lv_aload_n hx hb dX12_putTerm_259 rfl (lv_at hl 1 rfl) ?_
      refine lv_iconst (v := 2) hx hb dX12_putTerm_260 (by decide) ?_
      refine lv_aload_n hx hb dX12_putTerm_261 rfl (lv_at hl 1 rfl) ?_
      refine gmX12_67 F K Z dX12_putTerm_262 ?_
      refine lv_iload_n hx hb dX12_putTerm_265 rfl (lv_at hl 2 rfl) ?_
      obtain ⟨i266, hf⟩ := if_some hf
      refine ml18 F K Z i266 dX12_putTerm_266 ?_
      refine lv_iload_n hx hb dX12_putTerm_267 rfl (lv_at hl 3 rfl) ?_
      refine lv_iload_n hx hb dX12_putTerm_268 rfl (lv_at hl 4 rfl) ?_
      obtain ⟨q269, h269, hf⟩ := bind_some hf
      refine krX12_414_X12_push F K E hA Z h269 ⟨Nat.le_of_ble_eq_true rfl, Nat.le_of_ble_eq_true rfl⟩ hl.1 (Nat.le_of_ble_eq_true rfl) dX12_putTerm_269 (fun H locs Z => ?_)
      refine lv_aload_n hx hb dX12_putTerm_272 rfl (lv_at hl 1 rfl) ?_
      refine lv_iconst (v := 0) hx hb dX12_putTerm_273 (by decide) ?_
      refine lv_bipush (v := 44) hx hb dX12_putTerm_274 (by decide) ?_
      refine lv_iconst (v := 0) hx hb dX12_putTerm_276 (by decide) ?_
      refine lv_iconst (v := 0) hx hb dX12_putTerm_277 (by decide) ?_
      obtain ⟨q278, h278, hf⟩ := bind_some hf
      refine krX12_414_X12_push F K E hA Z h278 ⟨Nat.le_of_ble_eq_true rfl, Nat.le_of_ble_eq_true rfl⟩ hl.1 (Nat.le_of_ble_eq_true rfl) dX12_putTerm_278 (fun H locs Z => ?_)
      exact b_X12_putTerm_281 F hr hk K E hA _ _ _ _ hf _ _ _ Z (lv_sub hl [1, 2, 3, 4] rfl)
    have hf := if_t c182 hf
    refine lv_aload_n hx hb dX12_putTerm_185 rfl (lv_at hl 1 rfl) ?_
    refine lv_iload_n hx hb dX12_putTerm_186 rfl (lv_at hl 3 rfl) ?_
    refine lv_iload_n hx hb dX12_putTerm_187 rfl (lv_at hl 4 rfl) ?_
    refine lv_iload hx hb dX12_putTerm_188 (lv_at hl 0 rfl) ?_
    refine lv_iconst (v := 1) hx hb dX12_putTerm_190 (by decide) ?_
    refine lv_iadd hx hb dX12_putTerm_191 ?_
    obtain ⟨q192, h192, hf⟩ := bind_some hf
    refine krX12_426_X12_chain F K E hA Z h192 ⟨Nat.le_of_ble_eq_true rfl, Nat.le_of_ble_eq_true rfl⟩ hl.1 (Nat.le_of_ble_eq_true rfl) dX12_putTerm_192 (fun H locs Z => ?_)
    refine lv_istore (lv' := [(6, .int q192.1), (5, .int y0), (0, .ref (ad 0)), (1, .int x1), (2, .int x2), (3, .int x3), (4, .int x4)]) hx hb dX12_putTerm_195 hl (by decide) rfl (fun ls hl => ?_)
    refine lv_aload_n hx hb dX12_putTerm_197 rfl (lv_at hl 2 rfl) ?_
    refine lv_iconst (v := 2) hx hb dX12_putTerm_198 (by decide) ?_
    refine lv_aload_n hx hb dX12_putTerm_199 rfl (lv_at hl 2 rfl) ?_
    refine gmX12_70 F K Z dX12_putTerm_200 ?_
    refine lv_iload_n hx hb dX12_putTerm_203 rfl (lv_at hl 3 rfl) ?_
    obtain ⟨i204, hf⟩ := if_some hf
    refine ml19 F K Z i204 dX12_putTerm_204 ?_
    refine lv_iload hx hb dX12_putTerm_205 (lv_at hl 0 rfl) ?_
    refine lv_iload_n hx hb dX12_putTerm_207 rfl (lv_at hl 5 rfl) ?_
    refine lv_iconst (v := 1) hx hb dX12_putTerm_208 (by decide) ?_
    refine lv_iadd hx hb dX12_putTerm_209 ?_
    obtain ⟨q210, h210, hf⟩ := bind_some hf
    refine krX12_414_X12_push F K E hA Z h210 ⟨Nat.le_of_ble_eq_true rfl, Nat.le_of_ble_eq_true rfl⟩ hl.1 (Nat.le_of_ble_eq_true rfl) dX12_putTerm_210 (fun H locs Z => ?_)
    refine lv_aload_n hx hb dX12_putTerm_213 rfl (lv_at hl 2 rfl) ?_
    refine lv_iconst (v := 0) hx hb dX12_putTerm_214 (by decide) ?_
    refine lv_bipush (v := 44) hx hb dX12_putTerm_215 (by decide) ?_
    refine lv_iconst (v := 0) hx hb dX12_putTerm_217 (by decide) ?_
    refine lv_iconst (v := 0) hx hb dX12_putTerm_218 (by decide) ?_
    obtain ⟨q219, h219, hf⟩ := bind_some hf
    refine krX12_414_X12_push F K E hA Z h219 ⟨Nat.le_of_ble_eq_true rfl, Nat.le_of_ble_eq_true rfl⟩ hl.1 (Nat.le_of_ble_eq_true rfl) dX12_putTerm_219 (fun H locs Z => ?_)
    refine lv_aload_n hx hb dX12_putTerm_222 rfl (lv_at hl 2 rfl) ?_
    refine lv_iconst (v := 2) hx hb dX12_putTerm_223 (by decide) ?_
    refine lv_aload_n hx hb dX12_putTerm_224 rfl (lv_at hl 2 rfl) ?_
    refine gmX12_67 F K Z dX12_putTerm_225 ?_
    refine lv_iload_n hx hb dX12_putTerm_228 rfl (lv_at hl 3 rfl) ?_
    obtain ⟨i229, hf⟩ := if_some hf
    refine ml18 F K Z i229 dX12_putTerm_229 ?_
    refine lv_iload hx hb dX12_putTerm_230 (lv_at hl 0 rfl) ?_
    refine lv_iload_n hx hb dX12_putTerm_232 rfl (lv_at hl 5 rfl) ?_
    refine lv_iconst (v := 1) hx hb dX12_putTerm_233 (by decide) ?_
    refine lv_iadd hx hb dX12_putTerm_234 ?_
    obtain ⟨q235, h235, hf⟩ := bind_some hf
    refine krX12_414_X12_push F K E hA Z h235 ⟨Nat.le_of_ble_eq_true rfl, Nat.le_of_ble_eq_true rfl⟩ hl.1 (Nat.le_of_ble_eq_true rfl) dX12_putTerm_235 (fun H locs Z => ?_)
    refine lv_aload_n hx hb dX12_putTerm_238 rfl (lv_at hl 2 rfl) ?_
    refine lv_iconst (v := 0) hx hb dX12_putTerm_239 (by decide) ?_
    refine lv_bipush (v := 44) hx hb dX12_putTerm_240 (by decide) ?_
    refine lv_iconst (v := 0) hx hb dX12_putTerm_242 (by decide) ?_
    refine lv_iconst (v := 0) hx hb dX12_putTerm_243 (by decide) ?_
    obtain ⟨q244, h244, hf⟩ := bind_some hf
    refine krX12_414_X12_push F K E hA Z h244 ⟨Nat.le_of_ble_eq_true rfl, Nat.le_of_ble_eq_true rfl⟩ hl.1 (Nat.le_of_ble_eq_true rfl) dX12_putTerm_244 (fun H locs Z => ?_)
    refine lv_goto (tgt := 281) hx hb dX12_putTerm_247 (by decide) ?_
    exact b_X12_putTerm_281 F hr hk K E hA _ _ _ _ hf _ _ _ Z (lv_sub hl [2, 3, 4, 5] rfl)
  have hf := if_t c128 hf
  refine lv_aload_n hx hb dX12_putTerm_131 rfl (lv_at hl 1 rfl) ?_
  refine lv_iconst (v := 2) hx hb dX12_putTerm_132 (by decide) ?_
  refine lv_aload_n hx hb dX12_putTerm_133 rfl (lv_at hl 1 rfl) ?_
  refine gmX12_64 F K Z dX12_putTerm_134 ?_
  refine lv_iload_n hx hb dX12_putTerm_137 rfl (lv_at hl 2 rfl) ?_
  obtain ⟨i138, hf⟩ := if_some hf
  refine ml17 F K Z i138 dX12_putTerm_138 ?_
  refine lv_aload_n hx hb dX12_putTerm_139 rfl (lv_at hl 1 rfl) ?_
  refine lv_iload_n hx hb dX12_putTerm_140 rfl (lv_at hl 3 rfl) ?_
  refine lv_iload_n hx hb dX12_putTerm_141 rfl (lv_at hl 4 rfl) ?_
  refine lv_iload hx hb dX12_putTerm_142 (lv_at hl 0 rfl) ?_
  refine lv_iconst (v := 1) hx hb dX12_putTerm_144 (by decide) ?_
  refine lv_iadd hx hb dX12_putTerm_145 ?_
  obtain ⟨q146, h146, hf⟩ := bind_some hf
  refine krX12_426_X12_chain F K E hA Z h146 ⟨Nat.le_of_ble_eq_true rfl, Nat.le_of_ble_eq_true rfl⟩ hl.1 (Nat.le_of_ble_eq_true rfl) dX12_putTerm_146 (fun H locs Z => ?_)
  refine lv_iload_n hx hb dX12_putTerm_149 rfl (lv_at hl 4 rfl) ?_
  refine lv_iconst (v := 1) hx hb dX12_putTerm_150 (by decide) ?_
  refine lv_iadd hx hb dX12_putTerm_151 ?_
  obtain ⟨q152, h152, hf⟩ := bind_some hf
  refine krX12_414_X12_push F K E hA Z h152 ⟨Nat.le_of_ble_eq_true rfl, Nat.le_of_ble_eq_true rfl⟩ hl.1 (Nat.le_of_ble_eq_true rfl) dX12_putTerm_152 (fun H locs Z => ?_)
  refine lv_aload_n hx hb dX12_putTerm_155 rfl (lv_at hl 1 rfl) ?_
  refine lv_iconst (v := 0) hx hb dX12_putTerm_156 (by decide) ?_
  refine lv_bipush (v := 44) hx hb dX12_putTerm_157 (by decide) ?_
  refine lv_iconst (v := 0) hx hb dX12_putTerm_159 (by decide) ?_
  refine lv_iconst (v := 0) hx hb dX12_putTerm_160 (by decide) ?_
  obtain ⟨q161, h161, hf⟩ := bind_some hf
  refine krX12_414_X12_push F K E hA Z h161 ⟨Nat.le_of_ble_eq_true rfl, Nat.le_of_ble_eq_true rfl⟩ hl.1 (Nat.le_of_ble_eq_true rfl) dX12_putTerm_161 (fun H locs Z => ?_)
  refine lv_aload_n hx hb dX12_putTerm_164 rfl (lv_at hl 1 rfl) ?_
  refine lv_iconst (v := 1) hx hb dX12_putTerm_165 (by decide) ?_
  refine lv_aload_n hx hb dX12_putTerm_166 rfl (lv_at hl 1 rfl) ?_
  refine gmX12_61 F K Z dX12_putTerm_167 ?_
  refine lv_iload_n hx hb dX12_putTerm_170 rfl (lv_at hl 2 rfl) ?_
  obtain ⟨i171, hf⟩ := if_some hf
  refine ml16 F K Z i171 dX12_putTerm_171 ?_
  refine lv_iconst (v := 0) hx hb dX12_putTerm_172 (by decide) ?_
  refine lv_iconst (v := 0) hx hb dX12_putTerm_173 (by decide) ?_
  obtain ⟨q174, h174, hf⟩ := bind_some hf
  refine krX12_414_X12_push F K E hA Z h174 ⟨Nat.le_of_ble_eq_true rfl, Nat.le_of_ble_eq_true rfl⟩ hl.1 (Nat.le_of_ble_eq_true rfl) dX12_putTerm_174 (fun H locs Z => ?_)
  have hf := Option.some.inj hf
  subst hf
  exact ret_v F hr hk Z dX12_putTerm_177
set_option maxRecDepth 100000 in
set_option maxHeartbeats 4000000 in
theorem c_X12_putTerm {l : Launch} {D : va_G} {ad : Nat → Nat} {cy : Nat → ClassId} {ee : EE} {n : Nat} {st : StT} {x1 : Int32} {x2 : Int32} {x3 : Int32} {res : StT} (hf : f_X12_putTerm n st x1 x2 x3 = some res) : CT l yX12_putTerm cX12_putTerm 7 none 2 43 D cy ee (wM ad cy st) (wM ad cy res) [.ref (ad 0), .int x1, .int x2, .int x3] (none) := by
  refine CT.of (by decide +kernel) (Nat.le_of_ble_eq_true rfl) ?_
  intro p e s m args below meth c A F hr hk K E hA Z ls hl
  have hl : lv_has ls 7 [(0, .ref (ad 0)), (1, .int x1), (2, .int x2), (3, .int x3)] := hl
  have hx := F.1
  have hb := F.2.1
  unfold f_X12_putTerm at hf
  refine lv_aload_n hx hb dX12_putTerm_0 rfl (lv_at hl 0 rfl) ?_
  refine gmX12_58 F K Z dX12_putTerm_1 ?_
  refine lv_iload_n hx hb dX12_putTerm_4 rfl (lv_at hl 1 rfl) ?_
  obtain ⟨i5, hf⟩ := if_some hf
  refine ml15 F K Z i5 dX12_putTerm_5 ?_
  refine lv_istore (lv' := [(4, .int (st.2.1 14 (x1).toNatClampNeg)), (0, .ref (ad 0)), (1, .int x1), (2, .int x2), (3, .int x3)]) hx hb dX12_putTerm_6 hl (by decide) rfl (fun ls hl => ?_)
  refine lv_iload hx hb dX12_putTerm_8 (lv_at hl 0 rfl) ?_
  refine lv_bipush (v := 77) hx hb dX12_putTerm_10 (by decide) ?_
  refine lv_icmp_ne (tgt := 39) hx hb dX12_putTerm_12 (by decide) (fun c12 => ?_) (fun c12 => ?_)
  · have hf := if_f c12 hf
    refine lv_iload hx hb dX12_putTerm_39 (lv_at hl 0 rfl) ?_
    refine lv_bipush (v := 72) hx hb dX12_putTerm_41 (by decide) ?_
    refine lv_icmp_ne (tgt := 79) hx hb dX12_putTerm_43 (by decide) (fun c43 => ?_) (fun c43 => ?_)
    · have hf := if_f c43 hf
      refine lv_aload_n hx hb dX12_putTerm_79 rfl (lv_at hl 1 rfl) ?_
      refine lv_iload hx hb dX12_putTerm_80 (lv_at hl 0 rfl) ?_
      obtain ⟨q82, h82, hf⟩ := bind_some hf
      refine krX12_407_X12_put F K E hA Z h82 ⟨Nat.le_of_ble_eq_true rfl, Nat.le_of_ble_eq_true rfl⟩ hl.1 (Nat.le_of_ble_eq_true rfl) dX12_putTerm_82 (fun H locs Z => ?_)
      refine lv_iload hx hb dX12_putTerm_85 (lv_at hl 0 rfl) ?_
      refine lv_bipush (v := 84) hx hb dX12_putTerm_87 (by decide) ?_
      refine lv_icmp_ne (tgt := 93) hx hb dX12_putTerm_89 (by decide) (fun c89 => ?_) (fun c89 => ?_)
      · have hf := if_f c89 hf
        refine lv_aload_n hx hb dX12_putTerm_93 rfl (lv_at hl 1 rfl) ?_
        refine lv_bipush (v := 40) hx hb dX12_putTerm_94 (by decide) ?_
        obtain ⟨q96, h96, hf⟩ := bind_some hf
        refine krX12_407_X12_put F K E hA Z h96 ⟨Nat.le_of_ble_eq_true rfl, Nat.le_of_ble_eq_true rfl⟩ hl.1 (Nat.le_of_ble_eq_true rfl) dX12_putTerm_96 (fun H locs Z => ?_)
        refine lv_aload_n hx hb dX12_putTerm_99 rfl (lv_at hl 1 rfl) ?_
        refine lv_iconst (v := 0) hx hb dX12_putTerm_100 (by decide) ?_
        refine lv_bipush (v := 41) hx hb dX12_putTerm_101 (by decide) ?_
        refine lv_iconst (v := 0) hx hb dX12_putTerm_103 (by decide) ?_
        refine lv_iconst (v := 0) hx hb dX12_putTerm_104 (by decide) ?_
        obtain ⟨q105, h105, hf⟩ := bind_some hf
        refine krX12_414_X12_push F K E hA Z h105 ⟨Nat.le_of_ble_eq_true rfl, Nat.le_of_ble_eq_true rfl⟩ hl.1 (Nat.le_of_ble_eq_true rfl) dX12_putTerm_105 (fun H locs Z => ?_)
        refine lv_iload_n hx hb dX12_putTerm_108 rfl (lv_at hl 3 rfl) ?_
        refine lv_if_ge (tgt := 116) hx hb dX12_putTerm_109 (by decide) (fun c109 => ?_) (fun c109 => ?_)
        · have hf := if_t c109 hf
          refine lv_aload_n hx hb dX12_putTerm_116 rfl (lv_at hl 1 rfl) ?_
          refine gmX12_136 F K Z dX12_putTerm_117 ?_
          refine lv_iload_n hx hb dX12_putTerm_120 rfl (lv_at hl 3 rfl) ?_
          obtain ⟨i121, hf⟩ := if_some hf
          refine ml40 F K Z i121 dX12_putTerm_121 ?_
          exact b_X12_putTerm_122 F hr hk K E hA _ _ _ _ _ _ hf _ _ _ Z (lv_sub hl [1, 2, 3, 4, 0] rfl)
        have hf := if_f c109 hf
        refine lv_iconst (v := 0) hx hb dX12_putTerm_112 (by decide) ?_
        refine lv_goto (tgt := 122) hx hb dX12_putTerm_113 (by decide) ?_
        exact b_X12_putTerm_122 F hr hk K E hA _ _ _ _ _ _ hf _ _ _ Z (lv_sub hl [1, 2, 3, 4, 0] rfl)
      have hf := if_t c89 hf
      have hf := Option.some.inj hf
      subst hf
      exact ret_v F hr hk Z dX12_putTerm_92
    have hf := if_t c43 hf
    refine lv_aload_n hx hb dX12_putTerm_46 rfl (lv_at hl 1 rfl) ?_
    refine lv_iload_n hx hb dX12_putTerm_47 rfl (lv_at hl 3 rfl) ?_
    refine lv_aload_n hx hb dX12_putTerm_48 rfl (lv_at hl 1 rfl) ?_
    refine gmX12_61 F K Z dX12_putTerm_49 ?_
    refine lv_iload_n hx hb dX12_putTerm_52 rfl (lv_at hl 2 rfl) ?_
    obtain ⟨i53, hf⟩ := if_some hf
    refine ml16 F K Z i53 dX12_putTerm_53 ?_
    refine lv_iconst (v := 1) hx hb dX12_putTerm_54 (by decide) ?_
    refine lv_iadd hx hb dX12_putTerm_55 ?_
    obtain ⟨q56, h56, hf⟩ := bind_some hf
    refine krX12_420_X12_cutChain F K E hA Z h56 ⟨Nat.le_of_ble_eq_true rfl, Nat.le_of_ble_eq_true rfl⟩ hl.1 (Nat.le_of_ble_eq_true rfl) dX12_putTerm_56 (fun H locs Z => ?_)
    refine lv_istore (lv' := [(5, .int q56.1), (4, .int (st.2.1 14 (x1).toNatClampNeg)), (0, .ref (ad 0)), (1, .int x1), (2, .int x2), (3, .int x3)]) hx hb dX12_putTerm_59 hl (by decide) rfl (fun ls hl => ?_)
    refine lv_aload_n hx hb dX12_putTerm_61 rfl (lv_at hl 2 rfl) ?_
    refine lv_bipush (v := 104) hx hb dX12_putTerm_62 (by decide) ?_
    obtain ⟨q64, h64, hf⟩ := bind_some hf
    refine krX12_407_X12_put F K E hA Z h64 ⟨Nat.le_of_ble_eq_true rfl, Nat.le_of_ble_eq_true rfl⟩ hl.1 (Nat.le_of_ble_eq_true rfl) dX12_putTerm_64 (fun H locs Z => ?_)
    refine lv_aload_n hx hb dX12_putTerm_67 rfl (lv_at hl 2 rfl) ?_
    refine lv_aload_n hx hb dX12_putTerm_68 rfl (lv_at hl 2 rfl) ?_
    refine gmX12_133 F K Z dX12_putTerm_69 ?_
    refine lv_iload hx hb dX12_putTerm_72 (lv_at hl 0 rfl) ?_
    obtain ⟨i74, hf⟩ := if_some hf
    refine ml39 F K Z i74 dX12_putTerm_74 ?_
    obtain ⟨q75, h75, hf⟩ := bind_some hf
    refine krX12_423_X12_putNumber F K E hA Z h75 ⟨Nat.le_of_ble_eq_true rfl, Nat.le_of_ble_eq_true rfl⟩ hl.1 (Nat.le_of_ble_eq_true rfl) dX12_putTerm_75 (fun H locs Z => ?_)
    have hf := Option.some.inj hf
    subst hf
    exact ret_v F hr hk Z dX12_putTerm_78
  have hf := if_t c12 hf
  refine lv_aload_n hx hb dX12_putTerm_15 rfl (lv_at hl 1 rfl) ?_
  refine lv_iconst (v := 2) hx hb dX12_putTerm_16 (by decide) ?_
  refine lv_aload_n hx hb dX12_putTerm_17 rfl (lv_at hl 1 rfl) ?_
  refine gmX12_64 F K Z dX12_putTerm_18 ?_
  refine lv_iload_n hx hb dX12_putTerm_21 rfl (lv_at hl 2 rfl) ?_
  obtain ⟨i22, hf⟩ := if_some hf
  refine ml17 F K Z i22 dX12_putTerm_22 ?_
  refine lv_aload_n hx hb dX12_putTerm_23 rfl (lv_at hl 1 rfl) ?_
  refine lv_iload_n hx hb dX12_putTerm_24 rfl (lv_at hl 3 rfl) ?_
  refine lv_aload_n hx hb dX12_putTerm_25 rfl (lv_at hl 1 rfl) ?_
  refine gmX12_61 F K Z dX12_putTerm_26 ?_
  refine lv_iload_n hx hb dX12_putTerm_29 rfl (lv_at hl 2 rfl) ?_
  obtain ⟨i30, hf⟩ := if_some hf
  refine ml16 F K Z i30 dX12_putTerm_30 ?_
  obtain ⟨q31, h31, hf⟩ := bind_some hf
  refine krX12_420_X12_cutChain F K E hA Z h31 ⟨Nat.le_of_ble_eq_true rfl, Nat.le_of_ble_eq_true rfl⟩ hl.1 (Nat.le_of_ble_eq_true rfl) dX12_putTerm_31 (fun H locs Z => ?_)
  refine lv_iload_n hx hb dX12_putTerm_34 rfl (lv_at hl 4 rfl) ?_
  obtain ⟨q35, h35, hf⟩ := bind_some hf
  refine krX12_414_X12_push F K E hA Z h35 ⟨Nat.le_of_ble_eq_true rfl, Nat.le_of_ble_eq_true rfl⟩ hl.1 (Nat.le_of_ble_eq_true rfl) dX12_putTerm_35 (fun H locs Z => ?_)
  have hf := Option.some.inj hf
  subst hf
  exact ret_v F hr hk Z dX12_putTerm_38
def f_X12_writeAll_0 (n : Nat) : Nat → StT → Option StT
  | 0, _ => none
  | k + 1, st => if (st.1 31) ≤ 0 then (some st) else (if (8000 : Int32) < (st.1 15) then (some st) else (if inB ((uF st 31 ((st.1 31) - (1 : Int32))).1 31) 30000 = true then (if inB ((uF st 31 ((st.1 31) - (1 : Int32))).1 31) 30000 = true then (if ((uF st 31 ((st.1 31) - (1 : Int32))).2.1 33 (((uF st 31 ((st.1 31) - (1 : Int32))).1 31)).toNatClampNeg) = 0 then ((f_X12_put n (uF st 31 ((st.1 31) - (1 : Int32))) ((uF st 31 ((st.1 31) - (1 : Int32))).2.1 34 (((uF st 31 ((st.1 31) - (1 : Int32))).1 31)).toNatClampNeg)).bind fun q51 => (f_X12_writeAll_0 n k q51)) else (if inB ((uF st 31 ((st.1 31) - (1 : Int32))).1 31) 30000 = true then (if ((uF st 31 ((st.1 31) - (1 : Int32))).2.1 33 (((uF st 31 ((st.1 31) - (1 : Int32))).1 31)).toNatClampNeg) = (1 : Int32) then ((f_X12_putFormula n (uF st 31 ((st.1 31) - (1 : Int32))) ((uF st 31 ((st.1 31) - (1 : Int32))).2.1 34 (((uF st 31 ((st.1 31) - (1 : Int32))).1 31)).toNatClampNeg)).bind fun q72 => (f_X12_writeAll_0 n k q72)) else (if inB ((uF st 31 ((st.1 31) - (1 : Int32))).1 31) 30000 = true then (if inB ((uF st 31 ((st.1 31) - (1 : Int32))).1 31) 30000 = true then ((f_X12_putTerm n (uF st 31 ((st.1 31) - (1 : Int32))) ((uF st 31 ((st.1 31) - (1 : Int32))).2.1 34 (((uF st 31 ((st.1 31) - (1 : Int32))).1 31)).toNatClampNeg) ((uF st 31 ((st.1 31) - (1 : Int32))).2.1 35 (((uF st 31 ((st.1 31) - (1 : Int32))).1 31)).toNatClampNeg) ((uF st 31 ((st.1 31) - (1 : Int32))).2.1 36 (((uF st 31 ((st.1 31) - (1 : Int32))).1 31)).toNatClampNeg)).bind fun q98 => (f_X12_writeAll_0 n k q98)) else none) else none)) else none)) else none) else none))
def f_X12_writeAll (n : Nat) (st : StT) : Option StT := f_X12_writeAll_0 n n st
theorem wd1235 : Cond.methodLink RX12 432 yX12_putTerm ∈ Gw := gT7 (List.mem_of_getElem? (i := 134) rfl) rfl
theorem wd1236 : Cond.code yX12_putTerm prog_14_method_49_code 7 none ∈ Gw := gT7 (List.mem_of_getElem? (i := 137) rfl) rfl
theorem wd1237 : Cond.instanceMethod yX12_putTerm ∈ Gw := gT7 (List.mem_of_getElem? (i := 136) rfl) rfl
theorem wd1238 : Cond.selects RX12 yX12_putTerm yX12_putTerm ∈ Gw := gP5 (q := (yX12_putTerm, 98)) (List.mem_of_getElem? (i := 9) rfl)
theorem wd1239 : Cond.methodLink RX12 429 yX12_putFormula ∈ Gw := gT7 (List.mem_of_getElem? (i := 130) rfl) rfl
theorem wd1240 : Cond.code yX12_putFormula prog_14_method_46_code 4 none ∈ Gw := gT7 (List.mem_of_getElem? (i := 133) rfl) rfl
theorem wd1241 : Cond.instanceMethod yX12_putFormula ∈ Gw := gT7 (List.mem_of_getElem? (i := 132) rfl) rfl
theorem wd1242 : Cond.selects RX12 yX12_putFormula yX12_putFormula ∈ Gw := gP5 (q := (yX12_putFormula, 98)) (List.mem_of_getElem? (i := 8) rfl)
section
variable {p : Program} {l : Launch} {e : Env} {R : Room} {s : State} {m : MethodId} {args : Array Value} {below : List Frame} {meth : Method} {c : Code} {H : Heap} {locs : List Loc} {Q : State → Prop}
variable {cc : ByteArray} {nL pc : Nat} {ls : Array Slot} {rest : List Value} {D : va_G} {A : Nat → Prop} {cw : Cond} {ad : Nat → Nat} {cy : Nat → ClassId} {ee : EE} {st : StT} {own : String}
theorem ml35 {i : Int32} (F : CallFix p m c cc nL s args (cw :: Gw) own) (K : va_K D vwCl (tyL cy) s) (Z : ZG D (wM ad cy st) A s H locs) (hi : inB i 30000 = true) (hd : decode cc pc = .ok (.iaload, 1)) (kk : W p l e R s m args below meth c H locs 0 0 Q (F0 m (pc + 1) ls (.int (st.2.1 34 i.toNatClampNeg) :: rest))) : W p l e R s m args below meth c H locs 0 0 Q (F0 m pc ls (.int i :: .ref (ad 35) :: rest)) :=
  va_iald F.1 F.2.1 K Z.1 35 1 rfl rfl (inB_vp hi) hd kk
theorem ml34 {i : Int32} (F : CallFix p m c cc nL s args (cw :: Gw) own) (K : va_K D vwCl (tyL cy) s) (Z : ZG D (wM ad cy st) A s H locs) (hi : inB i 30000 = true) (hd : decode cc pc = .ok (.iaload, 1)) (kk : W p l e R s m args below meth c H locs 0 0 Q (F0 m (pc + 1) ls (.int (st.2.1 33 i.toNatClampNeg) :: rest))) : W p l e R s m args below meth c H locs 0 0 Q (F0 m pc ls (.int i :: .ref (ad 34) :: rest)) :=
  va_iald F.1 F.2.1 K Z.1 34 1 rfl rfl (inB_vp hi) hd kk
theorem ml36 {i : Int32} (F : CallFix p m c cc nL s args (cw :: Gw) own) (K : va_K D vwCl (tyL cy) s) (Z : ZG D (wM ad cy st) A s H locs) (hi : inB i 30000 = true) (hd : decode cc pc = .ok (.iaload, 1)) (kk : W p l e R s m args below meth c H locs 0 0 Q (F0 m (pc + 1) ls (.int (st.2.1 35 i.toNatClampNeg) :: rest))) : W p l e R s m args below meth c H locs 0 0 Q (F0 m pc ls (.int i :: .ref (ad 36) :: rest)) :=
  va_iald F.1 F.2.1 K Z.1 36 1 rfl rfl (inB_vp hi) hd kk
theorem ml37 {i : Int32} (F : CallFix p m c cc nL s args (cw :: Gw) own) (K : va_K D vwCl (tyL cy) s) (Z : ZG D (wM ad cy st) A s H locs) (hi : inB i 30000 = true) (hd : decode cc pc = .ok (.iaload, 1)) (kk : W p l e R s m args below meth c H locs 0 0 Q (F0 m (pc + 1) ls (.int (st.2.1 36 i.toNatClampNeg) :: rest))) : W p l e R s m args below meth c H locs 0 0 Q (F0 m pc ls (.int i :: .ref (ad 37) :: rest)) :=
  va_iald F.1 F.2.1 K Z.1 37 1 rfl rfl (inB_vp hi) hd kk
theorem krX12_432_X12_putTerm {n : Nat} {a0 : Int32} {a1 : Int32} {a2 : Int32} {q : StT} (F : CallFix p m c cc nL s args (cw :: Gw) RX12) (K : va_K D vwCl (tyL cy) s) (E : EV ee A s s.heap) (hA : ∀ q, s.heap.size ≤ q → A q) (Z : ZG D (wM ad cy st) A s H locs) (hf : f_X12_putTerm n st a0 a1 a2 = some q) (hR : 3 ≤ R.frames ∧ 69 ≤ R.locals) (hl : ls.size = nL) (hst : (rest.map fun v => v.category).sum ≤ 8) (hd : decode cc pc = .ok (.invokevirtual 432, 3)) (kk : ∀ (H1 : Heap) (locs1 : List Loc), ZG D (wM ad cy q) A s H1 locs1 → W p l e R s m args below meth c H1 locs1 0 0 Q (F0 m (pc + 3) ls (rest))) : W p l e R s m args below meth c H locs 0 0 Q (F0 m pc ls (.int a2 :: .int a1 :: .int a0 :: .ref (ad 0) :: rest)) :=
  call_V (q := (RX12, TX12, 98)) (n := 3) (As := [.int a0, .int a1, .int a2]) (rv := none) 0 12 F K E hA Z (c_X12_putTerm (l := l) (D := D) (ad := ad) (cy := cy) (ee := ee) hf) ⟨wd1236, wd1235, wd1237, wd1238, wd1008⟩ (by decide +kernel) rfl rfl hR rfl hl hst hd kk
theorem krX12_429_X12_putFormula {n : Nat} {a0 : Int32} {q : StT} (F : CallFix p m c cc nL s args (cw :: Gw) RX12) (K : va_K D vwCl (tyL cy) s) (E : EV ee A s s.heap) (hA : ∀ q, s.heap.size ≤ q → A q) (Z : ZG D (wM ad cy st) A s H locs) (hf : f_X12_putFormula n st a0 = some q) (hR : 2 ≤ R.frames ∧ 47 ≤ R.locals) (hl : ls.size = nL) (hst : (rest.map fun v => v.category).sum ≤ 8) (hd : decode cc pc = .ok (.invokevirtual 429, 3)) (kk : ∀ (H1 : Heap) (locs1 : List Loc), ZG D (wM ad cy q) A s H1 locs1 → W p l e R s m args below meth c H1 locs1 0 0 Q (F0 m (pc + 3) ls (rest))) : W p l e R s m args below meth c H locs 0 0 Q (F0 m pc ls (.int a0 :: .ref (ad 0) :: rest)) :=
  call_V (q := (RX12, TX12, 98)) (n := 1) (As := [.int a0]) (rv := none) 0 12 F K E hA Z (c_X12_putFormula (l := l) (D := D) (ad := ad) (cy := cy) (ee := ee) hf) ⟨wd1240, wd1239, wd1241, wd1242, wd1008⟩ (by decide +kernel) rfl rfl hR rfl hl hst hd kk
end
set_option maxRecDepth 100000 in
set_option maxHeartbeats 4000000 in
theorem b_X12_writeAll_0 {p : Program} {l : Launch} {e : Env} {s : State} {m : MethodId} {args : Array Value} {below : List Frame} {meth : Method} {c : Code} {D : va_G} {A : Nat → Prop} {ad : Nat → Nat} {cy : Nat → ClassId} {ee : EE} {n : Nat} {res : StT} (F : CallFix p m c cX12_writeAll 2 s args (Cond.code yX12_writeAll cX12_writeAll 2 none :: Gw) yX12_writeAll.cls) (hr : meth.sig.returnType = none) (hk : meth.locks = false) (K : va_K D vwCl (tyL cy) s) (E : EV ee A s s.heap) (hA : ∀ q, s.heap.size ≤ q → A q) : ∀ (k : Nat) (st : StT), f_X12_writeAll_0 n k st = some res → ∀ (H : Heap) (locs : List Loc) (ls : Array Slot), ZG D (wM ad cy st) A s H locs → lv_has ls 2 [(0, .ref (ad 0))] → W p l e { frames := 3, cells := 0, slots := 0, locals := 69 } s m args below meth c H locs 0 0 (MQ below (QC D (none) (wM ad cy res) A) args s 0 0 A) (F0 m 0 ls []) := by
  have hx := F.1
  have hb := F.2.1
  intro k
  induction k with
  | zero =>
    intro st hf
    exact absurd hf (by simp [f_X12_writeAll_0])
  | succ k ih =>
    intro st hf H locs ls Z hl
    rw [f_X12_writeAll_0] at hf
    refine lv_aload_n hx hb dX12_writeAll_0 rfl (lv_at hl 0 rfl) ?_
    refine gmX12_411 F K Z dX12_writeAll_1 ?_
    refine lv_if_le (tgt := 104) hx hb dX12_writeAll_4 (by decide) (fun c4 => ?_) (fun c4 => ?_)
    · have hf := if_t c4 hf
      have hf := Option.some.inj hf
      subst hf
      exact ret_v F hr hk Z dX12_writeAll_104
    have hf := if_f c4 hf
    refine lv_aload_n hx hb dX12_writeAll_7 rfl (lv_at hl 0 rfl) ?_
    refine gmX12_404 F K Z dX12_writeAll_8 ?_
    refine lv_sipush (v := 8000) hx hb dX12_writeAll_11 (by decide) ?_
    refine lv_icmp_gt (tgt := 104) hx hb dX12_writeAll_14 (by decide) (fun c14 => ?_) (fun c14 => ?_)
    · have hf := if_t c14 hf
      have hf := Option.some.inj hf
      subst hf
      exact ret_v F hr hk Z dX12_writeAll_104
    have hf := if_f c14 hf
    refine lv_aload_n hx hb dX12_writeAll_17 rfl (lv_at hl 0 rfl) ?_
    refine lv_dup hx hb dX12_writeAll_18 rfl ?_
    refine gmX12_411 F K Z dX12_writeAll_19 ?_
    refine lv_iconst (v := 1) hx hb dX12_writeAll_22 (by decide) ?_
    refine lv_isub hx hb dX12_writeAll_23 ?_
    refine pmX12_411 F K Z dX12_writeAll_24 (fun H locs Z => ?_)
    refine lv_aload_n hx hb dX12_writeAll_27 rfl (lv_at hl 0 rfl) ?_
    refine gmX12_121 F K Z dX12_writeAll_28 ?_
    refine lv_aload_n hx hb dX12_writeAll_31 rfl (lv_at hl 0 rfl) ?_
    refine gmX12_411 F K Z dX12_writeAll_32 ?_
    obtain ⟨i35, hf⟩ := if_some hf
    refine ml35 F K Z i35 dX12_writeAll_35 ?_
    refine lv_istore_n (lv' := [(1, .int ((uF st 31 ((st.1 31) - (1 : Int32))).2.1 34 (((uF st 31 ((st.1 31) - (1 : Int32))).1 31)).toNatClampNeg)), (0, .ref (ad 0))]) hx hb dX12_writeAll_36 rfl hl (by decide) rfl (fun ls hl => ?_)
    refine lv_aload_n hx hb dX12_writeAll_37 rfl (lv_at hl 1 rfl) ?_
    refine gmX12_118 F K Z dX12_writeAll_38 ?_
    refine lv_aload_n hx hb dX12_writeAll_41 rfl (lv_at hl 1 rfl) ?_
    refine gmX12_411 F K Z dX12_writeAll_42 ?_
    obtain ⟨i45, hf⟩ := if_some hf
    refine ml34 F K Z i45 dX12_writeAll_45 ?_
    refine lv_if_ne (tgt := 57) hx hb dX12_writeAll_46 (by decide) (fun c46 => ?_) (fun c46 => ?_)
    · have hf := if_f c46 hf
      refine lv_aload_n hx hb dX12_writeAll_57 rfl (lv_at hl 1 rfl) ?_
      refine gmX12_118 F K Z dX12_writeAll_58 ?_
      refine lv_aload_n hx hb dX12_writeAll_61 rfl (lv_at hl 1 rfl) ?_
      refine gmX12_411 F K Z dX12_writeAll_62 ?_
      obtain ⟨i65, hf⟩ := if_some hf
      refine ml34 F K Z i65 dX12_writeAll_65 ?_
      refine lv_iconst (v := 1) hx hb dX12_writeAll_66 (by decide) ?_
      refine lv_icmp_ne (tgt := 78) hx hb dX12_writeAll_67 (by decide) (fun c67 => ?_) (fun c67 => ?_)
      · have hf := if_f c67 hf
        refine lv_aload_n hx hb dX12_writeAll_78 rfl (lv_at hl 1 rfl) ?_
        refine lv_iload_n hx hb dX12_writeAll_79 rfl (lv_at hl 0 rfl) ?_
        refine lv_aload_n hx hb dX12_writeAll_80 rfl (lv_at hl 1 rfl) ?_
        refine gmX12_124 F K Z dX12_writeAll_81 ?_
        refine lv_aload_n hx hb dX12_writeAll_84 rfl (lv_at hl 1 rfl) ?_
        refine gmX12_411 F K Z dX12_writeAll_85 ?_
        obtain ⟨i88, hf⟩ := if_some hf
        refine ml36 F K Z i88 dX12_writeAll_88 ?_
        refine lv_aload_n hx hb dX12_writeAll_89 rfl (lv_at hl 1 rfl) ?_
        refine gmX12_127 F K Z dX12_writeAll_90 ?_
        refine lv_aload_n hx hb dX12_writeAll_93 rfl (lv_at hl 1 rfl) ?_
        refine gmX12_411 F K Z dX12_writeAll_94 ?_
        obtain ⟨i97, hf⟩ := if_some hf
        refine ml37 F K Z i97 dX12_writeAll_97 ?_
        obtain ⟨q98, h98, hf⟩ := bind_some hf
        refine krX12_432_X12_putTerm F K E hA Z h98 ⟨Nat.le_of_ble_eq_true rfl, Nat.le_of_ble_eq_true rfl⟩ hl.1 (Nat.le_of_ble_eq_true rfl) dX12_writeAll_98 (fun H locs Z => ?_)
        refine lv_goto (tgt := 0) hx hb dX12_writeAll_101 (by decide) ?_
        exact ih _ hf _ _ _ Z (lv_sub hl [1] rfl)
      have hf := if_t c67 hf
      refine lv_aload_n hx hb dX12_writeAll_70 rfl (lv_at hl 1 rfl) ?_
      refine lv_iload_n hx hb dX12_writeAll_71 rfl (lv_at hl 0 rfl) ?_
      obtain ⟨q72, h72, hf⟩ := bind_some hf
      refine krX12_429_X12_putFormula F K E hA Z h72 ⟨Nat.le_of_ble_eq_true rfl, Nat.le_of_ble_eq_true rfl⟩ hl.1 (Nat.le_of_ble_eq_true rfl) dX12_writeAll_72 (fun H locs Z => ?_)
      refine lv_goto (tgt := 101) hx hb dX12_writeAll_75 (by decide) ?_
      refine lv_goto (tgt := 0) hx hb dX12_writeAll_101 (by decide) ?_
      exact ih _ hf _ _ _ Z (lv_sub hl [1] rfl)
    have hf := if_t c46 hf
    refine lv_aload_n hx hb dX12_writeAll_49 rfl (lv_at hl 1 rfl) ?_
    refine lv_iload_n hx hb dX12_writeAll_50 rfl (lv_at hl 0 rfl) ?_
    obtain ⟨q51, h51, hf⟩ := bind_some hf
    refine krX12_407_X12_put F K E hA Z h51 ⟨Nat.le_of_ble_eq_true rfl, Nat.le_of_ble_eq_true rfl⟩ hl.1 (Nat.le_of_ble_eq_true rfl) dX12_writeAll_51 (fun H locs Z => ?_)
    refine lv_goto (tgt := 101) hx hb dX12_writeAll_54 (by decide) ?_
    refine lv_goto (tgt := 0) hx hb dX12_writeAll_101 (by decide) ?_
    exact ih _ hf _ _ _ Z (lv_sub hl [1] rfl)
set_option maxRecDepth 100000 in
set_option maxHeartbeats 4000000 in
theorem c_X12_writeAll {l : Launch} {D : va_G} {ad : Nat → Nat} {cy : Nat → ClassId} {ee : EE} {n : Nat} {st : StT} {res : StT} (hf : f_X12_writeAll n st = some res) : CT l yX12_writeAll cX12_writeAll 2 none 3 69 D cy ee (wM ad cy st) (wM ad cy res) [.ref (ad 0)] (none) := by
  refine CT.of (by decide +kernel) (Nat.le_of_ble_eq_true rfl) ?_
  intro p e s m args below meth c A F hr hk K E hA Z ls hl
  have hl : lv_has ls 2 [(0, .ref (ad 0))] := hl
  have hx := F.1
  have hb := F.2.1
  unfold f_X12_writeAll at hf
  exact b_X12_writeAll_0 F hr hk K E hA _ _ hf _ _ _ Z hl
def f_X12_written_15 (n : Nat) : Nat → StT → Int32 → Option (Int32 × StT)
  | 0, _, _ => none
  | k + 1, st, x1 => if (st.1 15) ≤ x1 then (some (((uF st 14 (st.1 15)).1 14), (uF st 14 (st.1 15)))) else (if inB x1 8100 = true then (if inB x1 8100 = true then (f_X12_written_15 n k (uA st 7 x1 (vp_nar .byte (st.2.1 8 (x1).toNatClampNeg))) (x1 + (1 : Int32))) else none) else none)
def f_X12_written (n : Nat) (st : StT) : Option (Int32 × StT) := if (st.1 15) ≤ (8000 : Int32) then (f_X12_written_15 n n st (0 : Int32)) else (some ((-4 : Int32), st))
theorem wd1243 : Cond.fieldLink RX12 436 "WorldProverModel" "outSize" "I" ∈ Gw := gT6 (List.mem_of_getElem? (i := 80) rfl) rfl
theorem wd1244 : Cond.fieldLink RX12 35 "WorldProverModel" "out" "[B" ∈ Gw := gT6 (List.mem_of_getElem? (i := 79) rfl) rfl
section
variable {p : Program} {l : Launch} {e : Env} {R : Room} {s : State} {m : MethodId} {args : Array Value} {below : List Frame} {meth : Method} {c : Code} {H : Heap} {locs : List Loc} {Q : State → Prop}
variable {cc : ByteArray} {nL pc : Nat} {ls : Array Slot} {rest : List Value} {D : va_G} {A : Nat → Prop} {cw : Cond} {ad : Nat → Nat} {cy : Nat → ClassId} {ee : EE} {st : StT} {own : String}
theorem pmX12_436 {v : Int32} (F : CallFix p m c cc nL s args (cw :: Gw) RX12) (K : va_K D vwCl (tyL cy) s) (Z : ZG D (wM ad cy st) A s H locs) (hd : decode cc pc = .ok (.putfield 436, 3)) (kk : ∀ (H1 : Heap) (locs1 : List Loc), ZG D (wM ad cy (uF st 14 v)) A s H1 locs1 → W p l e R s m args below meth c H1 locs1 0 0 Q (F0 m (pc + 3) ls rest)) : W p l e R s m args below meth c H locs 0 0 Q (F0 m pc ls (.int v :: .ref (ad 0) :: rest)) :=
  va_put (D := D) (ci := 12) (v := .int v) (ty := .int) (C := RX12) (T := TX12) (N := 98) F.1 F.2.1 F.2.2.2.2 (fun w h => List.mem_cons_of_mem _ (inG_X12 w h)) tyX12 tyX12_ok nmX12 F.2.2.2.1 K Z.1 Z.2.1 Z.2.2 0 rfl rfl 22 (by decide) (F.2.2.2.2 _ (List.mem_cons_of_mem _ wd1243)) (fun _ h => h) rfl (by decide +kernel) rfl rfl (Nat.le_of_ble_eq_true rfl) hd (fun H1 locs1 hP hD hS => kk H1 locs1 ⟨hP, hD, hS⟩)
theorem gmX12_436 (F : CallFix p m c cc nL s args (cw :: Gw) RX12) (K : va_K D vwCl (tyL cy) s) (Z : ZG D (wM ad cy st) A s H locs) (hd : decode cc pc = .ok (.getfield 436, 3)) (kk : W p l e R s m args below meth c H locs 0 0 Q (F0 m (pc + 3) ls (.int (st.1 14) :: rest))) : W p l e R s m args below meth c H locs 0 0 Q (F0 m pc ls (.ref (ad 0) :: rest)) :=
  va_get (D := D) (ci := 12) (C := RX12) (T := TX12) (N := 98) F.1 F.2.1 F.2.2.2.2 (fun w h => List.mem_cons_of_mem _ (inG_X12 w h)) F.2.2.2.1 K Z.1 0 rfl rfl 22 (by decide) (F.2.2.2.2 _ (List.mem_cons_of_mem _ wd1243)) (fun _ h => h) rfl hd kk
theorem gmX12_35 (F : CallFix p m c cc nL s args (cw :: Gw) RX12) (K : va_K D vwCl (tyL cy) s) (Z : ZG D (wM ad cy st) A s H locs) (hd : decode cc pc = .ok (.getfield 35, 3)) (kk : W p l e R s m args below meth c H locs 0 0 Q (F0 m (pc + 3) ls (.ref (ad 8) :: rest))) : W p l e R s m args below meth c H locs 0 0 Q (F0 m pc ls (.ref (ad 0) :: rest)) :=
  va_get (D := D) (ci := 12) (C := RX12) (T := TX12) (N := 98) F.1 F.2.1 F.2.2.2.2 (fun w h => List.mem_cons_of_mem _ (inG_X12 w h)) F.2.2.2.1 K Z.1 0 rfl rfl 21 (by decide) (F.2.2.2.2 _ (List.mem_cons_of_mem _ wd1244)) (fun _ h => h) rfl hd kk
theorem ml9 {i : Int32} (F : CallFix p m c cc nL s args (cw :: Gw) own) (K : va_K D vwCl (tyL cy) s) (Z : ZG D (wM ad cy st) A s H locs) (hi : inB i 8100 = true) (hd : decode cc pc = .ok (.baload, 1)) (kk : W p l e R s m args below meth c H locs 0 0 Q (F0 m (pc + 1) ls (.int (st.2.1 8 i.toNatClampNeg) :: rest))) : W p l e R s m args below meth c H locs 0 0 Q (F0 m pc ls (.int i :: .ref (ad 9) :: rest)) :=
  va_bald F.1 F.2.1 K Z.1 9 0 rfl rfl (inB_vp hi) hd kk
theorem ms8 {i : Int32} {v : Int32} (F : CallFix p m c cc nL s args (cw :: Gw) own) (K : va_K D vwCl (tyL cy) s) (Z : ZG D (wM ad cy st) A s H locs) (hi : inB i 8100 = true) (hd : decode cc pc = .ok (.bastore, 1)) (kk : ∀ (H1 : Heap) (locs1 : List Loc), ZG D (wM ad cy (uA st 7 i (vp_nar .byte v))) A s H1 locs1 → W p l e R s m args below meth c H1 locs1 0 0 Q (F0 m (pc + 1) ls rest)) : W p l e R s m args below meth c H locs 0 0 Q (F0 m pc ls (.int v :: .int i :: .ref (ad 8) :: rest)) :=
  va_bast F.1 F.2.1 K Z.1 Z.2.1 Z.2.2 8 0 rfl rfl (inB_vp hi) hd (fun H1 locs1 hP hD hS => kk H1 locs1 ⟨hP, hD, hS⟩)
end
set_option maxRecDepth 100000 in
set_option maxHeartbeats 4000000 in
theorem b_X12_written_15 {p : Program} {l : Launch} {e : Env} {s : State} {m : MethodId} {args : Array Value} {below : List Frame} {meth : Method} {c : Code} {D : va_G} {A : Nat → Prop} {ad : Nat → Nat} {cy : Nat → ClassId} {ee : EE} {n : Nat} {res : (Int32 × StT)} (F : CallFix p m c cX12_written 2 s args (Cond.code yX12_written cX12_written 2 (some .int) :: Gw) yX12_written.cls) (hr : meth.sig.returnType = (some .int)) (hk : meth.locks = false) (K : va_K D vwCl (tyL cy) s) (E : EV ee A s s.heap) (hA : ∀ q, s.heap.size ≤ q → A q) : ∀ (k : Nat) (st : StT) (x1 : Int32), f_X12_written_15 n k st x1 = some res → ∀ (H : Heap) (locs : List Loc) (ls : Array Slot), ZG D (wM ad cy st) A s H locs → lv_has ls 2 [(0, .ref (ad 0)), (1, .int x1)] → W p l e { frames := 0, cells := 0, slots := 0, locals := 0 } s m args below meth c H locs 0 0 (MQ below (QC D (some (.int res.1)) (wM ad cy res.2) A) args s 0 0 A) (F0 m 15 ls []) := by
  have hx := F.1
  have hb := F.2.1
  intro k
  induction k with
  | zero =>
    intro st x1 hf
    exact absurd hf (by simp [f_X12_written_15])
  | succ k ih =>
    intro st x1 hf H locs ls Z hl
    rw [f_X12_written_15] at hf
    refine lv_iload_n hx hb dX12_written_15 rfl (lv_at hl 1 rfl) ?_
    refine lv_aload_n hx hb dX12_written_16 rfl (lv_at hl 0 rfl) ?_
    refine gmX12_404 F K Z dX12_written_17 ?_
    refine lv_icmp_ge (tgt := 41) hx hb dX12_written_20 (by decide) (fun c20 => ?_) (fun c20 => ?_)
    · have hf := if_t c20 hf
      refine lv_aload_n hx hb dX12_written_41 rfl (lv_at hl 0 rfl) ?_
      refine lv_aload_n hx hb dX12_written_42 rfl (lv_at hl 0 rfl) ?_
      refine gmX12_404 F K Z dX12_written_43 ?_
      refine pmX12_436 F K Z dX12_written_46 (fun H locs Z => ?_)
      refine lv_aload_n hx hb dX12_written_49 rfl (lv_at hl 0 rfl) ?_
      refine gmX12_436 F K Z dX12_written_50 ?_
      have hf := Option.some.inj hf
      subst hf
      exact ret_i F hr hk Z dX12_written_53
    have hf := if_f c20 hf
    refine lv_aload_n hx hb dX12_written_23 rfl (lv_at hl 0 rfl) ?_
    refine gmX12_35 F K Z dX12_written_24 ?_
    refine lv_iload_n hx hb dX12_written_27 rfl (lv_at hl 1 rfl) ?_
    refine lv_aload_n hx hb dX12_written_28 rfl (lv_at hl 0 rfl) ?_
    refine gmX12_39 F K Z dX12_written_29 ?_
    refine lv_iload_n hx hb dX12_written_32 rfl (lv_at hl 1 rfl) ?_
    obtain ⟨i33, hf⟩ := if_some hf
    refine ml9 F K Z i33 dX12_written_33 ?_
    obtain ⟨i34, hf⟩ := if_some hf
    refine ms8 F K Z i34 dX12_written_34 (fun H locs Z => ?_)
    refine lv_iinc (v := (x1 + (1 : Int32))) (lv' := [(1, .int (x1 + (1 : Int32))), (0, .ref (ad 0))]) hx hb dX12_written_35 hl (k := 1) rfl (congrArg (fun z => x1 + z) (by decide)) (by decide) rfl (fun ls hl => ?_)
    refine lv_goto (tgt := 15) hx hb dX12_written_38 (by decide) ?_
    exact ih _ _ hf _ _ _ Z (lv_sub hl [1, 0] rfl)
set_option maxRecDepth 100000 in
set_option maxHeartbeats 4000000 in
theorem c_X12_written {l : Launch} {D : va_G} {ad : Nat → Nat} {cy : Nat → ClassId} {ee : EE} {n : Nat} {st : StT} {res : (Int32 × StT)} (hf : f_X12_written n st = some res) : CT l yX12_written cX12_written 2 (some .int) 0 0 D cy ee (wM ad cy st) (wM ad cy res.2) [.ref (ad 0)] (some (.int res.1)) := by
  refine CT.of (by decide +kernel) (Nat.le_of_ble_eq_true rfl) ?_
  intro p e s m args below meth c A F hr hk K E hA Z ls hl
  have hl : lv_has ls 2 [(0, .ref (ad 0))] := hl
  have hx := F.1
  have hb := F.2.1
  unfold f_X12_written at hf
  refine lv_aload_n hx hb dX12_written_0 rfl (lv_at hl 0 rfl) ?_
  refine gmX12_404 F K Z dX12_written_1 ?_
  refine lv_sipush (v := 8000) hx hb dX12_written_4 (by decide) ?_
  refine lv_icmp_le (tgt := 13) hx hb dX12_written_7 (by decide) (fun c7 => ?_) (fun c7 => ?_)
  · have hf := if_t c7 hf
    refine lv_iconst (v := 0) hx hb dX12_written_13 (by decide) ?_
    refine lv_istore_n (lv' := [(1, .int (0 : Int32)), (0, .ref (ad 0))]) hx hb dX12_written_14 rfl hl (by decide) rfl (fun ls hl => ?_)
    exact b_X12_written_15 F hr hk K E hA _ _ _ hf _ _ _ Z (lv_sub hl [1, 0] rfl)
  have hf := if_f c7 hf
  refine lv_bipush (v := -4) hx hb dX12_written_10 (by decide) ?_
  have hf := Option.some.inj hf
  subst hf
  exact ret_i F hr hk Z dX12_written_12
def f_X12_write (n : Nat) (st : StT) (x1 : Int32) : Option (Int32 × StT) := if x1 < 0 then (some ((-1 : Int32), st)) else (if x1 < (st.1 0) then ((f_X12_push n (uF (uF st 15 (0 : Int32)) 31 (0 : Int32)) (1 : Int32) x1 (0 : Int32) (0 : Int32)).bind fun q29 => ((f_X12_writeAll n q29).bind fun q33 => ((f_X12_written n q33).bind fun q37 => (some (q37.1, q37.2))))) else (some ((-1 : Int32), st)))
theorem wd1245 : Cond.methodLink RX12 442 yX12_written ∈ Gw := gT7 (List.mem_of_getElem? (i := 150) rfl) rfl
theorem wd1246 : Cond.code yX12_written prog_14_method_51_code 2 (some .int) ∈ Gw := gT7 (List.mem_of_getElem? (i := 153) rfl) rfl
theorem wd1247 : Cond.instanceMethod yX12_written ∈ Gw := gT7 (List.mem_of_getElem? (i := 152) rfl) rfl
theorem wd1248 : Cond.selects RX12 yX12_written yX12_written ∈ Gw := gP5 (q := (yX12_written, 98)) (List.mem_of_getElem? (i := 13) rfl)
theorem wd1249 : Cond.methodLink RX12 439 yX12_writeAll ∈ Gw := gT7 (List.mem_of_getElem? (i := 122) rfl) rfl
theorem wd1250 : Cond.code yX12_writeAll prog_14_method_50_code 2 none ∈ Gw := gT7 (List.mem_of_getElem? (i := 125) rfl) rfl
theorem wd1251 : Cond.instanceMethod yX12_writeAll ∈ Gw := gT7 (List.mem_of_getElem? (i := 124) rfl) rfl
theorem wd1252 : Cond.selects RX12 yX12_writeAll yX12_writeAll ∈ Gw := gP5 (q := (yX12_writeAll, 98)) (List.mem_of_getElem? (i := 6) rfl)
section
variable {p : Program} {l : Launch} {e : Env} {R : Room} {s : State} {m : MethodId} {args : Array Value} {below : List Frame} {meth : Method} {c : Code} {H : Heap} {locs : List Loc} {Q : State → Prop}
variable {cc : ByteArray} {nL pc : Nat} {ls : Array Slot} {rest : List Value} {D : va_G} {A : Nat → Prop} {cw : Cond} {ad : Nat → Nat} {cy : Nat → ClassId} {ee : EE} {st : StT} {own : String}
theorem krX12_442_X12_written {n : Nat}  {q : (Int32 × StT)} (F : CallFix p m c cc nL s args (cw :: Gw) RX12) (K : va_K D vwCl (tyL cy) s) (E : EV ee A s s.heap) (hA : ∀ q, s.heap.size ≤ q → A q) (Z : ZG D (wM ad cy st) A s H locs) (hf : f_X12_written n st = some q) (hR : 1 ≤ R.frames ∧ 21 ≤ R.locals) (hl : ls.size = nL) (hst : (rest.map fun v => v.category).sum ≤ 8) (hd : decode cc pc = .ok (.invokevirtual 442, 3)) (kk : ∀ (H1 : Heap) (locs1 : List Loc), ZG D (wM ad cy q.2) A s H1 locs1 → W p l e R s m args below meth c H1 locs1 0 0 Q (F0 m (pc + 3) ls (.int q.1 :: rest))) : W p l e R s m args below meth c H locs 0 0 Q (F0 m pc ls (.ref (ad 0) :: rest)) :=
  call_V (q := (RX12, TX12, 98)) (n := 0) (As := []) (rv := some (.int q.1)) 0 12 F K E hA Z (c_X12_written (l := l) (D := D) (ad := ad) (cy := cy) (ee := ee) hf) ⟨wd1246, wd1245, wd1247, wd1248, wd1008⟩ (by decide +kernel) rfl rfl hR rfl hl hst hd kk
theorem krX12_439_X12_writeAll {n : Nat}  {q : StT} (F : CallFix p m c cc nL s args (cw :: Gw) RX12) (K : va_K D vwCl (tyL cy) s) (E : EV ee A s s.heap) (hA : ∀ q, s.heap.size ≤ q → A q) (Z : ZG D (wM ad cy st) A s H locs) (hf : f_X12_writeAll n st = some q) (hR : 4 ≤ R.frames ∧ 90 ≤ R.locals) (hl : ls.size = nL) (hst : (rest.map fun v => v.category).sum ≤ 8) (hd : decode cc pc = .ok (.invokevirtual 439, 3)) (kk : ∀ (H1 : Heap) (locs1 : List Loc), ZG D (wM ad cy q) A s H1 locs1 → W p l e R s m args below meth c H1 locs1 0 0 Q (F0 m (pc + 3) ls (rest))) : W p l e R s m args below meth c H locs 0 0 Q (F0 m pc ls (.ref (ad 0) :: rest)) :=
  call_V (q := (RX12, TX12, 98)) (n := 0) (As := []) (rv := none) 0 12 F K E hA Z (c_X12_writeAll (l := l) (D := D) (ad := ad) (cy := cy) (ee := ee) hf) ⟨wd1250, wd1249, wd1251, wd1252, wd1008⟩ (by decide +kernel) rfl rfl hR rfl hl hst hd kk
end
set_option maxRecDepth 100000 in
set_option maxHeartbeats 4000000 in
theorem c_X12_write {l : Launch} {D : va_G} {ad : Nat → Nat} {cy : Nat → ClassId} {ee : EE} {n : Nat} {st : StT} {x1 : Int32} {res : (Int32 × StT)} (hf : f_X12_write n st x1 = some res) : CT l yX12_write cX12_write 2 (some .int) 4 90 D cy ee (wM ad cy st) (wM ad cy res.2) [.ref (ad 0), .int x1] (some (.int res.1)) := by
  refine CT.of (by decide +kernel) (Nat.le_of_ble_eq_true rfl) ?_
  intro p e s m args below meth c A F hr hk K E hA Z ls hl
  have hl : lv_has ls 2 [(0, .ref (ad 0)), (1, .int x1)] := hl
  have hx := F.1
  have hb := F.2.1
  unfold f_X12_write at hf
  refine lv_iload_n hx hb dX12_write_0 rfl (lv_at hl 1 rfl) ?_
  refine lv_if_lt (tgt := 12) hx hb dX12_write_1 (by decide) (fun c1 => ?_) (fun c1 => ?_)
  · have hf := if_t c1 hf
    refine lv_iconst (v := -1) hx hb dX12_write_12 (by decide) ?_
    have hf := Option.some.inj hf
    subst hf
    exact ret_i F hr hk Z dX12_write_13
  have hf := if_f c1 hf
  refine lv_iload_n hx hb dX12_write_4 rfl (lv_at hl 1 rfl) ?_
  refine lv_aload_n hx hb dX12_write_5 rfl (lv_at hl 0 rfl) ?_
  refine gmX12_204 F K Z dX12_write_6 ?_
  refine lv_icmp_lt (tgt := 14) hx hb dX12_write_9 (by decide) (fun c9 => ?_) (fun c9 => ?_)
  · have hf := if_t c9 hf
    refine lv_aload_n hx hb dX12_write_14 rfl (lv_at hl 0 rfl) ?_
    refine lv_iconst (v := 0) hx hb dX12_write_15 (by decide) ?_
    refine pmX12_404 F K Z dX12_write_16 (fun H locs Z => ?_)
    refine lv_aload_n hx hb dX12_write_19 rfl (lv_at hl 0 rfl) ?_
    refine lv_iconst (v := 0) hx hb dX12_write_20 (by decide) ?_
    refine pmX12_411 F K Z dX12_write_21 (fun H locs Z => ?_)
    refine lv_aload_n hx hb dX12_write_24 rfl (lv_at hl 0 rfl) ?_
    refine lv_iconst (v := 1) hx hb dX12_write_25 (by decide) ?_
    refine lv_iload_n hx hb dX12_write_26 rfl (lv_at hl 1 rfl) ?_
    refine lv_iconst (v := 0) hx hb dX12_write_27 (by decide) ?_
    refine lv_iconst (v := 0) hx hb dX12_write_28 (by decide) ?_
    obtain ⟨q29, h29, hf⟩ := bind_some hf
    refine krX12_414_X12_push F K E hA Z h29 ⟨Nat.le_of_ble_eq_true rfl, Nat.le_of_ble_eq_true rfl⟩ hl.1 (Nat.le_of_ble_eq_true rfl) dX12_write_29 (fun H locs Z => ?_)
    refine lv_aload_n hx hb dX12_write_32 rfl (lv_at hl 0 rfl) ?_
    obtain ⟨q33, h33, hf⟩ := bind_some hf
    refine krX12_439_X12_writeAll F K E hA Z h33 ⟨Nat.le_of_ble_eq_true rfl, Nat.le_of_ble_eq_true rfl⟩ hl.1 (Nat.le_of_ble_eq_true rfl) dX12_write_33 (fun H locs Z => ?_)
    refine lv_aload_n hx hb dX12_write_36 rfl (lv_at hl 0 rfl) ?_
    obtain ⟨q37, h37, hf⟩ := bind_some hf
    refine krX12_442_X12_written F K E hA Z h37 ⟨Nat.le_of_ble_eq_true rfl, Nat.le_of_ble_eq_true rfl⟩ hl.1 (Nat.le_of_ble_eq_true rfl) dX12_write_37 (fun H locs Z => ?_)
    have hf := Option.some.inj hf
    subst hf
    exact ret_i F hr hk Z dX12_write_40
  have hf := if_f c9 hf
  refine lv_iconst (v := -1) hx hb dX12_write_12 (by decide) ?_
  have hf := Option.some.inj hf
  subst hf
  exact ret_i F hr hk Z dX12_write_13
def f_X12_octet (n : Nat) (st : StT) (x1 : Int32) : Option (Int32 × StT) := if x1 < 0 then (some ((-1 : Int32), st)) else (if x1 < (st.1 14) then (if inB x1 8100 = true then (some ((st.2.1 7 (x1).toNatClampNeg), st)) else none) else (some ((-1 : Int32), st)))
section
variable {p : Program} {l : Launch} {e : Env} {R : Room} {s : State} {m : MethodId} {args : Array Value} {below : List Frame} {meth : Method} {c : Code} {H : Heap} {locs : List Loc} {Q : State → Prop}
variable {cc : ByteArray} {nL pc : Nat} {ls : Array Slot} {rest : List Value} {D : va_G} {A : Nat → Prop} {cw : Cond} {ad : Nat → Nat} {cy : Nat → ClassId} {ee : EE} {st : StT} {own : String}
theorem ml8 {i : Int32} (F : CallFix p m c cc nL s args (cw :: Gw) own) (K : va_K D vwCl (tyL cy) s) (Z : ZG D (wM ad cy st) A s H locs) (hi : inB i 8100 = true) (hd : decode cc pc = .ok (.baload, 1)) (kk : W p l e R s m args below meth c H locs 0 0 Q (F0 m (pc + 1) ls (.int (st.2.1 7 i.toNatClampNeg) :: rest))) : W p l e R s m args below meth c H locs 0 0 Q (F0 m pc ls (.int i :: .ref (ad 8) :: rest)) :=
  va_bald F.1 F.2.1 K Z.1 8 0 rfl rfl (inB_vp hi) hd kk
end
set_option maxRecDepth 100000 in
set_option maxHeartbeats 4000000 in
theorem c_X12_octet {l : Launch} {D : va_G} {ad : Nat → Nat} {cy : Nat → ClassId} {ee : EE} {n : Nat} {st : StT} {x1 : Int32} {res : (Int32 × StT)} (hf : f_X12_octet n st x1 = some res) : CT l yX12_octet cX12_octet 2 (some .int) 0 0 D cy ee (wM ad cy st) (wM ad cy res.2) [.ref (ad 0), .int x1] (some (.int res.1)) := by
  refine CT.of (by decide +kernel) (Nat.le_of_ble_eq_true rfl) ?_
  intro p e s m args below meth c A F hr hk K E hA Z ls hl
  have hl : lv_has ls 2 [(0, .ref (ad 0)), (1, .int x1)] := hl
  have hx := F.1
  have hb := F.2.1
  unfold f_X12_octet at hf
  refine lv_iload_n hx hb dX12_octet_0 rfl (lv_at hl 1 rfl) ?_
  refine lv_if_lt (tgt := 12) hx hb dX12_octet_1 (by decide) (fun c1 => ?_) (fun c1 => ?_)
  · have hf := if_t c1 hf
    refine lv_iconst (v := -1) hx hb dX12_octet_12 (by decide) ?_
    refine lv_goto (tgt := 22) hx hb dX12_octet_13 (by decide) ?_
    have hf := Option.some.inj hf
    subst hf
    exact ret_i F hr hk Z dX12_octet_22
  have hf := if_f c1 hf
  refine lv_iload_n hx hb dX12_octet_4 rfl (lv_at hl 1 rfl) ?_
  refine lv_aload_n hx hb dX12_octet_5 rfl (lv_at hl 0 rfl) ?_
  refine gmX12_436 F K Z dX12_octet_6 ?_
  refine lv_icmp_lt (tgt := 16) hx hb dX12_octet_9 (by decide) (fun c9 => ?_) (fun c9 => ?_)
  · have hf := if_t c9 hf
    refine lv_aload_n hx hb dX12_octet_16 rfl (lv_at hl 0 rfl) ?_
    refine gmX12_35 F K Z dX12_octet_17 ?_
    refine lv_iload_n hx hb dX12_octet_20 rfl (lv_at hl 1 rfl) ?_
    obtain ⟨i21, hf⟩ := if_some hf
    refine ml8 F K Z i21 dX12_octet_21 ?_
    have hf := Option.some.inj hf
    subst hf
    exact ret_i F hr hk Z dX12_octet_22
  have hf := if_f c9 hf
  refine lv_iconst (v := -1) hx hb dX12_octet_12 (by decide) ?_
  refine lv_goto (tgt := 22) hx hb dX12_octet_13 (by decide) ?_
  have hf := Option.some.inj hf
  subst hf
  exact ret_i F hr hk Z dX12_octet_22
def f_X12_proof_30 (n : Nat) : Nat → StT → Int32 → Int32 → Option (Int32 × StT)
  | 0, _, _, _ => none
  | k + 1, st, x1, x2 => if (st.1 33) ≤ x2 then ((f_X12_push n st (2 : Int32) (st.1 27) x1 (st.1 33)).bind fun q65 => ((f_X12_writeAll n q65).bind fun q69 => ((f_X12_written n q69).bind fun q73 => (some (q73.1, q73.2))))) else ((f_X12_chain n st x1 x2 (x2 + (1 : Int32))).bind fun q44 => (f_X12_proof_30 n k q44.2 q44.1 (x2 + (1 : Int32))))
def f_X12_proof (n : Nat) (st : StT) : Option (Int32 × StT) := if (st.1 28) = (1 : Int32) then (f_X12_proof_30 n n (uF (uF (uF st 15 (0 : Int32)) 31 (0 : Int32)) 32 (0 : Int32)) (-1 : Int32) (0 : Int32)) else (some ((-3 : Int32), st))
theorem wd1253 : Cond.fieldLink RX12 103 "WorldProverModel" "answer" "I" ∈ Gw := gT6 (List.mem_of_getElem? (i := 115) rfl) rfl
theorem wd1254 : Cond.fieldLink RX12 445 "WorldProverModel" "proofGiven" "I" ∈ Gw := gT6 (List.mem_of_getElem? (i := 131) rfl) rfl
theorem wd1255 : Cond.fieldLink RX12 448 "WorldProverModel" "proofTerm" "I" ∈ Gw := gT6 (List.mem_of_getElem? (i := 114) rfl) rfl
section
variable {p : Program} {l : Launch} {e : Env} {R : Room} {s : State} {m : MethodId} {args : Array Value} {below : List Frame} {meth : Method} {c : Code} {H : Heap} {locs : List Loc} {Q : State → Prop}
variable {cc : ByteArray} {nL pc : Nat} {ls : Array Slot} {rest : List Value} {D : va_G} {A : Nat → Prop} {cw : Cond} {ad : Nat → Nat} {cy : Nat → ClassId} {ee : EE} {st : StT} {own : String}
theorem gmX12_103 (F : CallFix p m c cc nL s args (cw :: Gw) RX12) (K : va_K D vwCl (tyL cy) s) (Z : ZG D (wM ad cy st) A s H locs) (hd : decode cc pc = .ok (.getfield 103, 3)) (kk : W p l e R s m args below meth c H locs 0 0 Q (F0 m (pc + 3) ls (.int (st.1 28) :: rest))) : W p l e R s m args below meth c H locs 0 0 Q (F0 m pc ls (.ref (ad 0) :: rest)) :=
  va_get (D := D) (ci := 12) (C := RX12) (T := TX12) (N := 98) F.1 F.2.1 F.2.2.2.2 (fun w h => List.mem_cons_of_mem _ (inG_X12 w h)) F.2.2.2.1 K Z.1 0 rfl rfl 57 (by decide) (F.2.2.2.2 _ (List.mem_cons_of_mem _ wd1253)) (fun _ h => h) rfl hd kk
theorem gmX12_445 (F : CallFix p m c cc nL s args (cw :: Gw) RX12) (K : va_K D vwCl (tyL cy) s) (Z : ZG D (wM ad cy st) A s H locs) (hd : decode cc pc = .ok (.getfield 445, 3)) (kk : W p l e R s m args below meth c H locs 0 0 Q (F0 m (pc + 3) ls (.int (st.1 33) :: rest))) : W p l e R s m args below meth c H locs 0 0 Q (F0 m pc ls (.ref (ad 0) :: rest)) :=
  va_get (D := D) (ci := 12) (C := RX12) (T := TX12) (N := 98) F.1 F.2.1 F.2.2.2.2 (fun w h => List.mem_cons_of_mem _ (inG_X12 w h)) F.2.2.2.1 K Z.1 0 rfl rfl 73 (by decide) (F.2.2.2.2 _ (List.mem_cons_of_mem _ wd1254)) (fun _ h => h) rfl hd kk
theorem gmX12_448 (F : CallFix p m c cc nL s args (cw :: Gw) RX12) (K : va_K D vwCl (tyL cy) s) (Z : ZG D (wM ad cy st) A s H locs) (hd : decode cc pc = .ok (.getfield 448, 3)) (kk : W p l e R s m args below meth c H locs 0 0 Q (F0 m (pc + 3) ls (.int (st.1 27) :: rest))) : W p l e R s m args below meth c H locs 0 0 Q (F0 m pc ls (.ref (ad 0) :: rest)) :=
  va_get (D := D) (ci := 12) (C := RX12) (T := TX12) (N := 98) F.1 F.2.1 F.2.2.2.2 (fun w h => List.mem_cons_of_mem _ (inG_X12 w h)) F.2.2.2.1 K Z.1 0 rfl rfl 56 (by decide) (F.2.2.2.2 _ (List.mem_cons_of_mem _ wd1255)) (fun _ h => h) rfl hd kk
end
set_option maxRecDepth 100000 in
set_option maxHeartbeats 4000000 in
theorem b_X12_proof_30 {p : Program} {l : Launch} {e : Env} {s : State} {m : MethodId} {args : Array Value} {below : List Frame} {meth : Method} {c : Code} {D : va_G} {A : Nat → Prop} {ad : Nat → Nat} {cy : Nat → ClassId} {ee : EE} {n : Nat} {res : (Int32 × StT)} (F : CallFix p m c cX12_proof 3 s args (Cond.code yX12_proof cX12_proof 3 (some .int) :: Gw) yX12_proof.cls) (hr : meth.sig.returnType = (some .int)) (hk : meth.locks = false) (K : va_K D vwCl (tyL cy) s) (E : EV ee A s s.heap) (hA : ∀ q, s.heap.size ≤ q → A q) : ∀ (k : Nat) (st : StT) (x1 : Int32) (x2 : Int32), f_X12_proof_30 n k st x1 x2 = some res → ∀ (H : Heap) (locs : List Loc) (ls : Array Slot), ZG D (wM ad cy st) A s H locs → lv_has ls 3 [(0, .ref (ad 0)), (1, .int x1), (2, .int x2)] → W p l e { frames := 4, cells := 0, slots := 0, locals := 90 } s m args below meth c H locs 0 0 (MQ below (QC D (some (.int res.1)) (wM ad cy res.2) A) args s 0 0 A) (F0 m 30 ls []) := by
  have hx := F.1
  have hb := F.2.1
  intro k
  induction k with
  | zero =>
    intro st x1 x2 hf
    exact absurd hf (by simp [f_X12_proof_30])
  | succ k ih =>
    intro st x1 x2 hf H locs ls Z hl
    rw [f_X12_proof_30] at hf
    refine lv_iload_n hx hb dX12_proof_30 rfl (lv_at hl 2 rfl) ?_
    refine lv_aload_n hx hb dX12_proof_31 rfl (lv_at hl 0 rfl) ?_
    refine gmX12_445 F K Z dX12_proof_32 ?_
    refine lv_icmp_ge (tgt := 54) hx hb dX12_proof_35 (by decide) (fun c35 => ?_) (fun c35 => ?_)
    · have hf := if_t c35 hf
      refine lv_aload_n hx hb dX12_proof_54 rfl (lv_at hl 0 rfl) ?_
      refine lv_iconst (v := 2) hx hb dX12_proof_55 (by decide) ?_
      refine lv_aload_n hx hb dX12_proof_56 rfl (lv_at hl 0 rfl) ?_
      refine gmX12_448 F K Z dX12_proof_57 ?_
      refine lv_iload_n hx hb dX12_proof_60 rfl (lv_at hl 1 rfl) ?_
      refine lv_aload_n hx hb dX12_proof_61 rfl (lv_at hl 0 rfl) ?_
      refine gmX12_445 F K Z dX12_proof_62 ?_
      obtain ⟨q65, h65, hf⟩ := bind_some hf
      refine krX12_414_X12_push F K E hA Z h65 ⟨Nat.le_of_ble_eq_true rfl, Nat.le_of_ble_eq_true rfl⟩ hl.1 (Nat.le_of_ble_eq_true rfl) dX12_proof_65 (fun H locs Z => ?_)
      refine lv_aload_n hx hb dX12_proof_68 rfl (lv_at hl 0 rfl) ?_
      obtain ⟨q69, h69, hf⟩ := bind_some hf
      refine krX12_439_X12_writeAll F K E hA Z h69 ⟨Nat.le_of_ble_eq_true rfl, Nat.le_of_ble_eq_true rfl⟩ hl.1 (Nat.le_of_ble_eq_true rfl) dX12_proof_69 (fun H locs Z => ?_)
      refine lv_aload_n hx hb dX12_proof_72 rfl (lv_at hl 0 rfl) ?_
      obtain ⟨q73, h73, hf⟩ := bind_some hf
      refine krX12_442_X12_written F K E hA Z h73 ⟨Nat.le_of_ble_eq_true rfl, Nat.le_of_ble_eq_true rfl⟩ hl.1 (Nat.le_of_ble_eq_true rfl) dX12_proof_73 (fun H locs Z => ?_)
      have hf := Option.some.inj hf
      subst hf
      exact ret_i F hr hk Z dX12_proof_76
    have hf := if_f c35 hf
    refine lv_aload_n hx hb dX12_proof_38 rfl (lv_at hl 0 rfl) ?_
    refine lv_iload_n hx hb dX12_proof_39 rfl (lv_at hl 1 rfl) ?_
    refine lv_iload_n hx hb dX12_proof_40 rfl (lv_at hl 2 rfl) ?_
    refine lv_iload_n hx hb dX12_proof_41 rfl (lv_at hl 2 rfl) ?_
    refine lv_iconst (v := 1) hx hb dX12_proof_42 (by decide) ?_
    refine lv_iadd hx hb dX12_proof_43 ?_
    obtain ⟨q44, h44, hf⟩ := bind_some hf
    refine krX12_426_X12_chain F K E hA Z h44 ⟨Nat.le_of_ble_eq_true rfl, Nat.le_of_ble_eq_true rfl⟩ hl.1 (Nat.le_of_ble_eq_true rfl) dX12_proof_44 (fun H locs Z => ?_)
    refine lv_istore_n (lv' := [(1, .int q44.1), (0, .ref (ad 0)), (2, .int x2)]) hx hb dX12_proof_47 rfl hl (by decide) rfl (fun ls hl => ?_)
    refine lv_iinc (v := (x2 + (1 : Int32))) (lv' := [(2, .int (x2 + (1 : Int32))), (1, .int q44.1), (0, .ref (ad 0))]) hx hb dX12_proof_48 hl (k := 2) rfl (congrArg (fun z => x2 + z) (by decide)) (by decide) rfl (fun ls hl => ?_)
    refine lv_goto (tgt := 30) hx hb dX12_proof_51 (by decide) ?_
    exact ih _ _ _ hf _ _ _ Z (lv_sub hl [2, 1, 0] rfl)
set_option maxRecDepth 100000 in
set_option maxHeartbeats 4000000 in
theorem c_X12_proof {l : Launch} {D : va_G} {ad : Nat → Nat} {cy : Nat → ClassId} {ee : EE} {n : Nat} {st : StT} {res : (Int32 × StT)} (hf : f_X12_proof n st = some res) : CT l yX12_proof cX12_proof 3 (some .int) 4 90 D cy ee (wM ad cy st) (wM ad cy res.2) [.ref (ad 0)] (some (.int res.1)) := by
  refine CT.of (by decide +kernel) (Nat.le_of_ble_eq_true rfl) ?_
  intro p e s m args below meth c A F hr hk K E hA Z ls hl
  have hl : lv_has ls 3 [(0, .ref (ad 0))] := hl
  have hx := F.1
  have hb := F.2.1
  unfold f_X12_proof at hf
  refine lv_aload_n hx hb dX12_proof_0 rfl (lv_at hl 0 rfl) ?_
  refine gmX12_103 F K Z dX12_proof_1 ?_
  refine lv_iconst (v := 1) hx hb dX12_proof_4 (by decide) ?_
  refine lv_icmp_eq (tgt := 11) hx hb dX12_proof_5 (by decide) (fun c5 => ?_) (fun c5 => ?_)
  · have hf := if_t c5 hf
    refine lv_aload_n hx hb dX12_proof_11 rfl (lv_at hl 0 rfl) ?_
    refine lv_iconst (v := 0) hx hb dX12_proof_12 (by decide) ?_
    refine pmX12_404 F K Z dX12_proof_13 (fun H locs Z => ?_)
    refine lv_aload_n hx hb dX12_proof_16 rfl (lv_at hl 0 rfl) ?_
    refine lv_iconst (v := 0) hx hb dX12_proof_17 (by decide) ?_
    refine pmX12_411 F K Z dX12_proof_18 (fun H locs Z => ?_)
    refine lv_aload_n hx hb dX12_proof_21 rfl (lv_at hl 0 rfl) ?_
    refine lv_iconst (v := 0) hx hb dX12_proof_22 (by decide) ?_
    refine pmX12_417 F K Z dX12_proof_23 (fun H locs Z => ?_)
    refine lv_iconst (v := -1) hx hb dX12_proof_26 (by decide) ?_
    refine lv_istore_n (lv' := [(1, .int (-1 : Int32)), (0, .ref (ad 0))]) hx hb dX12_proof_27 rfl hl (by decide) rfl (fun ls hl => ?_)
    refine lv_iconst (v := 0) hx hb dX12_proof_28 (by decide) ?_
    refine lv_istore_n (lv' := [(2, .int (0 : Int32)), (1, .int (-1 : Int32)), (0, .ref (ad 0))]) hx hb dX12_proof_29 rfl hl (by decide) rfl (fun ls hl => ?_)
    exact b_X12_proof_30 F hr hk K E hA _ _ _ _ hf _ _ _ Z (lv_sub hl [2, 1, 0] rfl)
  have hf := if_f c5 hf
  refine lv_bipush (v := -3) hx hb dX12_proof_8 (by decide) ?_
  have hf := Option.some.inj hf
  subst hf
  exact ret_i F hr hk Z dX12_proof_10
