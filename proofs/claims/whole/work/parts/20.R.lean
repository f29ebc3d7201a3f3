def f_X3_fail (n : Nat) (st : StT) (x1 : Int32) (x2 : Int32) : Option (Int32 × StT) := if (st.1 10) = 0 then (some ((-1 : Int32), (uF (uF st 10 x1) 11 x2))) else (some ((-1 : Int32), st))
theorem wd609 : Cond.laysFinal RX3 "WorldProver$Reader" "formulas" "LWorldProver$Formulas;" ∈ Gw := gT1 (List.mem_of_getElem? (i := 160) rfl) rfl
theorem wd610 : Cond.laysFinal RX3 "WorldProver$Reader" "tokens" "LWorldProver$Tokens;" ∈ Gw := gT1 (List.mem_of_getElem? (i := 162) rfl) rfl
theorem wd611 : Cond.laysFinal RX3 "WorldProver$Reader" "terms" "LWorldProver$Terms;" ∈ Gw := gT1 (List.mem_of_getElem? (i := 164) rfl) rfl
theorem wd612 : Cond.lays RX3 "WorldProver$Reader" "open" "I" ∈ Gw := gT1 (List.mem_of_getElem? (i := 166) rfl) rfl
theorem wd613 : Cond.lays RX3 "WorldProver$Reader" "fault" "I" ∈ Gw := gT1 (List.mem_of_getElem? (i := 168) rfl) rfl
theorem wd614 : Cond.lays RX3 "WorldProver$Reader" "faultPlace" "I" ∈ Gw := gT1 (List.mem_of_getElem? (i := 170) rfl) rfl
theorem wd615 : Cond.fieldLink RX3 24 "WorldProver$Reader" "tokens" "LWorldProver$Tokens;" ∈ Gw := gT1 (List.mem_of_getElem? (i := 152) rfl) rfl
theorem wd616 : Cond.fieldLink RX3 53 "WorldProver$Reader" "open" "I" ∈ Gw := gT1 (List.mem_of_getElem? (i := 155) rfl) rfl
theorem wd617 : Cond.fieldLink RX3 56 "WorldProver$Reader" "fault" "I" ∈ Gw := gT1 (List.mem_of_getElem? (i := 157) rfl) rfl
theorem wd618 : Cond.fieldLink RX3 20 "WorldProver$Reader" "faultPlace" "I" ∈ Gw := gT1 (List.mem_of_getElem? (i := 158) rfl) rfl
theorem inG_X3 : ∀ w ∈ u_ws RX3 TX3 6, w ∈ Gw := by
  intro w h
  obtain ⟨k, hk, rfl⟩ := List.mem_map.mp h
  have hk := List.mem_range.mp hk
  by_cases h0 : k = 0
  · subst h0; exact wd609
  by_cases h1 : k = 1
  · subst h1; exact wd610
  by_cases h2 : k = 2
  · subst h2; exact wd611
  by_cases h3 : k = 3
  · subst h3; exact wd612
  by_cases h4 : k = 4
  · subst h4; exact wd613
  by_cases h5 : k = 5
  · subst h5; exact wd614
  omega
section
variable {p : Program} {l : Launch} {e : Env} {R : Room} {s : State} {m : MethodId} {args : Array Value} {below : List Frame} {meth : Method} {c : Code} {H : Heap} {locs : List Loc} {Q : State → Prop}
variable {cc : ByteArray} {nL pc : Nat} {ls : Array Slot} {rest : List Value} {D : va_G} {A : Nat → Prop} {cw : Cond} {ad : Nat → Nat} {cy : Nat → ClassId} {ee : EE} {st : StT} {own : String}
theorem grX3_24_11 (F : CallFix p m c cc nL s args (cw :: Gw) RX3) (K : va_K D vwCl (tyL cy) s) (Z : ZG D (wC ad cy st) A s H locs) (hd : decode cc pc = .ok (.getfield 24, 3)) (kk : W p l e R s m args below meth c H locs 0 0 Q (F0 m (pc + 3) ls (.ref (ad 2) :: rest))) : W p l e R s m args below meth c H locs 0 0 Q (F0 m pc ls (.ref (ad 11) :: rest)) :=
  va_get (D := D) (ci := 3) (C := RX3) (T := TX3) (N := 6) F.1 F.2.1 F.2.2.2.2 (fun w h => List.mem_cons_of_mem _ (inG_X3 w h)) F.2.2.2.1 K Z.1 11 rfl rfl 1 (by decide) (F.2.2.2.2 _ (List.mem_cons_of_mem _ wd615)) (fun _ h => h) rfl hd kk
theorem grX3_53_11 (F : CallFix p m c cc nL s args (cw :: Gw) RX3) (K : va_K D vwCl (tyL cy) s) (Z : ZG D (wC ad cy st) A s H locs) (hd : decode cc pc = .ok (.getfield 53, 3)) (kk : W p l e R s m args below meth c H locs 0 0 Q (F0 m (pc + 3) ls (.int (st.1 9) :: rest))) : W p l e R s m args below meth c H locs 0 0 Q (F0 m pc ls (.ref (ad 11) :: rest)) :=
  va_get (D := D) (ci := 3) (C := RX3) (T := TX3) (N := 6) F.1 F.2.1 F.2.2.2.2 (fun w h => List.mem_cons_of_mem _ (inG_X3 w h)) F.2.2.2.1 K Z.1 11 rfl rfl 3 (by decide) (F.2.2.2.2 _ (List.mem_cons_of_mem _ wd616)) (fun _ h => h) rfl hd kk
theorem prX3_53_11 {v : Int32} (F : CallFix p m c cc nL s args (cw :: Gw) RX3) (K : va_K D vwCl (tyL cy) s) (Z : ZG D (wC ad cy st) A s H locs) (hd : decode cc pc = .ok (.putfield 53, 3)) (kk : ∀ (H1 : Heap) (locs1 : List Loc), ZG D (wC ad cy (uF st 9 v)) A s H1 locs1 → W p l e R s m args below meth c H1 locs1 0 0 Q (F0 m (pc + 3) ls rest)) : W p l e R s m args below meth c H locs 0 0 Q (F0 m pc ls (.int v :: .ref (ad 11) :: rest)) :=
  va_put (D := D) (ci := 3) (v := .int v) (ty := .int) (C := RX3) (T := TX3) (N := 6) F.1 F.2.1 F.2.2.2.2 (fun w h => List.mem_cons_of_mem _ (inG_X3 w h)) tyX3 tyX3_ok nmX3 F.2.2.2.1 K Z.1 Z.2.1 Z.2.2 11 rfl rfl 3 (by decide) (F.2.2.2.2 _ (List.mem_cons_of_mem _ wd616)) (fun _ h => h) rfl (by decide +kernel) rfl rfl (Nat.le_of_ble_eq_true rfl) hd (fun H1 locs1 hP hD hS => kk H1 locs1 ⟨hP, hD, hS⟩)
theorem grX3_56_11 (F : CallFix p m c cc nL s args (cw :: Gw) RX3) (K : va_K D vwCl (tyL cy) s) (Z : ZG D (wC ad cy st) A s H locs) (hd : decode cc pc = .ok (.getfield 56, 3)) (kk : W p l e R s m args below meth c H locs 0 0 Q (F0 m (pc + 3) ls (.int (st.1 10) :: rest))) : W p l e R s m args below meth c H locs 0 0 Q (F0 m pc ls (.ref (ad 11) :: rest)) :=
  va_get (D := D) (ci := 3) (C := RX3) (T := TX3) (N := 6) F.1 F.2.1 F.2.2.2.2 (fun w h => List.mem_cons_of_mem _ (inG_X3 w h)) F.2.2.2.1 K Z.1 11 rfl rfl 4 (by decide) (F.2.2.2.2 _ (List.mem_cons_of_mem _ wd617)) (fun _ h => h) rfl hd kk
theorem prX3_56_11 {v : Int32} (F : CallFix p m c cc nL s args (cw :: Gw) RX3) (K : va_K D vwCl (tyL cy) s) (Z : ZG D (wC ad cy st) A s H locs) (hd : decode cc pc = .ok (.putfield 56, 3)) (kk : ∀ (H1 : Heap) (locs1 : List Loc), ZG D (wC ad cy (uF st 10 v)) A s H1 locs1 → W p l e R s m args below meth c H1 locs1 0 0 Q (F0 m (pc + 3) ls rest)) : W p l e R s m args below meth c H locs 0 0 Q (F0 m pc ls (.int v :: .ref (ad 11) :: rest)) :=
  va_put (D := D) (ci := 3) (v := .int v) (ty := .int) (C := RX3) (T := TX3) (N := 6) F.1 F.2.1 F.2.2.2.2 (fun w h => List.mem_cons_of_mem _ (inG_X3 w h)) tyX3 tyX3_ok nmX3 F.2.2.2.1 K Z.1 Z.2.1 Z.2.2 11 rfl rfl 4 (by decide) (F.2.2.2.2 _ (List.mem_cons_of_mem _ wd617)) (fun _ h => h) rfl (by decide +kernel) rfl rfl (Nat.le_of_ble_eq_true rfl) hd (fun H1 locs1 hP hD hS => kk H1 locs1 ⟨hP, hD, hS⟩)
theorem prX3_20_11 {v : Int32} (F : CallFix p m c cc nL s args (cw :: Gw) RX3) (K : va_K D vwCl (tyL cy) s) (Z : ZG D (wC ad cy st) A s H locs) (hd : decode cc pc = .ok (.putfield 20, 3)) (kk : ∀ (H1 : Heap) (locs1 : List Loc), ZG D (wC ad cy (uF st 11 v)) A s H1 locs1 → W p l e R s m args below meth c H1 locs1 0 0 Q (F0 m (pc + 3) ls rest)) : W p l e R s m args below meth c H locs 0 0 Q (F0 m pc ls (.int v :: .ref (ad 11) :: rest)) :=
  va_put (D := D) (ci := 3) (v := .int v) (ty := .int) (C := RX3) (T := TX3) (N := 6) F.1 F.2.1 F.2.2.2.2 (fun w h => List.mem_cons_of_mem _ (inG_X3 w h)) tyX3 tyX3_ok nmX3 F.2.2.2.1 K Z.1 Z.2.1 Z.2.2 11 rfl rfl 5 (by decide) (F.2.2.2.2 _ (List.mem_cons_of_mem _ wd618)) (fun _ h => h) rfl (by decide +kernel) rfl rfl (Nat.le_of_ble_eq_true rfl) hd (fun H1 locs1 hP hD hS => kk H1 locs1 ⟨hP, hD, hS⟩)
end
set_option maxRecDepth 100000 in
set_option maxHeartbeats 4000000 in
theorem c_X3_fail {l : Launch} {D : va_G} {ad : Nat → Nat} {cy : Nat → ClassId} {ee : EE} {n : Nat} {st : StT} {x1 : Int32} {x2 : Int32} {res : (Int32 × StT)} (hf : f_X3_fail n st x1 x2 = some res) : CT l yX3_fail cX3_fail 3 (some .int) 0 0 D cy ee (wC ad cy st) (wC ad cy res.2) [.ref (ad 11), .int x1, .int x2] (some (.int res.1)) := by
  refine CT.of (by decide +kernel) (Nat.le_of_ble_eq_true rfl) ?_
  intro p e s m args below meth c A F hr hk K E hA Z ls hl
  have hl : lv_has ls 3 [(0, .ref (ad 11)), (1, .int x1), (2, .int x2)] := hl
  have hx := F.1
  have hb := F.2.1
  unfold f_X3_fail at hf
  refine lv_aload_n hx hb dX3_fail_0 rfl (lv_at hl 0 rfl) ?_
  refine grX3_56_11 F K Z dX3_fail_1 ?_
  refine lv_if_ne (tgt := 17) hx hb dX3_fail_4 (by decide) (fun c4 => ?_) (fun c4 => ?_)
  · have hf := if_f c4 hf
    refine lv_iconst (v := -1) hx hb dX3_fail_17 (by decide) ?_
    have hf := Option.some.inj hf
    subst hf
    exact ret_i F hr hk Z dX3_fail_18
  have hf := if_t c4 hf
  refine lv_aload_n hx hb dX3_fail_7 rfl (lv_at hl 0 rfl) ?_
  refine lv_iload_n hx hb dX3_fail_8 rfl (lv_at hl 1 rfl) ?_
  refine prX3_56_11 F K Z dX3_fail_9 (fun H locs Z => ?_)
  refine lv_aload_n hx hb dX3_fail_12 rfl (lv_at hl 0 rfl) ?_
  refine lv_iload_n hx hb dX3_fail_13 rfl (lv_at hl 2 rfl) ?_
  refine prX3_20_11 F K Z dX3_fail_14 (fun H locs Z => ?_)
  refine lv_iconst (v := -1) hx hb dX3_fail_17 (by decide) ?_
  have hf := Option.some.inj hf
  subst hf
  exact ret_i F hr hk Z dX3_fail_18
def f_X3_look (n : Nat) (st : StT) : Option (Int32 × StT) := if (st.1 10) = 0 then ((f_X8_look n st).bind fun q13 => (if q13.1 = (-1 : Int32) then ((f_X8_start n q13.2).bind fun q28 => ((f_X3_fail n q28.2 (1 : Int32) q28.1).bind fun q31 => (some (q13.1, q31.2)))) else (some (q13.1, q13.2)))) else (some ((-1 : Int32), st))
theorem wd619 : Cond.methodLink RX3 65 yX3_fail ∈ Gw := gT3 (List.mem_of_getElem? (i := 100) rfl) rfl
theorem wd620 : Cond.code yX3_fail prog_5_method_5_code 3 (some .int) ∈ Gw := gT3 (List.mem_of_getElem? (i := 103) rfl) rfl
theorem wd621 : Cond.instanceMethod yX3_fail ∈ Gw := gT3 (List.mem_of_getElem? (i := 102) rfl) rfl
theorem wd622 : Cond.selects RX3 yX3_fail yX3_fail ∈ Gw := gP1 (q := (yX3_fail, 6)) (List.mem_of_getElem? (i := 12) rfl)
theorem wd623 : Cond.initialized RX3 ∈ Gw := gT1 (List.mem_of_getElem? (i := 5) rfl) rfl
theorem wd624 : Cond.methodLink RX3 62 yX8_start ∈ Gw := gT3 (List.mem_of_getElem? (i := 96) rfl) rfl
theorem wd625 : Cond.code yX8_start prog_10_method_8_code 1 (some .int) ∈ Gw := gT3 (List.mem_of_getElem? (i := 99) rfl) rfl
theorem wd626 : Cond.instanceMethod yX8_start ∈ Gw := gT3 (List.mem_of_getElem? (i := 97) rfl) rfl
theorem wd627 : Cond.selects RX8 yX8_start yX8_start ∈ Gw := gT3 (List.mem_of_getElem? (i := 98) rfl) rfl
theorem wd628 : Cond.methodLink RX3 59 yX8_look ∈ Gw := gT2 (List.mem_of_getElem? (i := 219) rfl) rfl
theorem wd629 : Cond.code yX8_look prog_10_method_6_code 2 (some .int) ∈ Gw := gT2 (List.mem_of_getElem? (i := 222) rfl) rfl
theorem wd630 : Cond.instanceMethod yX8_look ∈ Gw := gT2 (List.mem_of_getElem? (i := 220) rfl) rfl
theorem wd631 : Cond.selects RX8 yX8_look yX8_look ∈ Gw := gT2 (List.mem_of_getElem? (i := 221) rfl) rfl
section
variable {p : Program} {l : Launch} {e : Env} {R : Room} {s : State} {m : MethodId} {args : Array Value} {below : List Frame} {meth : Method} {c : Code} {H : Heap} {locs : List Loc} {Q : State → Prop}
variable {cc : ByteArray} {nL pc : Nat} {ls : Array Slot} {rest : List Value} {D : va_G} {A : Nat → Prop} {cw : Cond} {ad : Nat → Nat} {cy : Nat → ClassId} {ee : EE} {st : StT} {own : String}
theorem krX3_65_X3_fail {n : Nat} {a0 : Int32} {a1 : Int32} {q : (Int32 × StT)} (F : CallFix p m c cc nL s args (cw :: Gw) RX3) (K : va_K D vwCl (tyL cy) s) (E : EV ee A s s.heap) (hA : ∀ q, s.heap.size ≤ q → A q) (Z : ZG D (wC ad cy st) A s H locs) (hf : f_X3_fail n st a0 a1 = some q) (hR : 1 ≤ R.frames ∧ 22 ≤ R.locals) (hl : ls.size = nL) (hst : (rest.map fun v => v.category).sum ≤ 8) (hd : decode cc pc = .ok (.invokevirtual 65, 3)) (kk : ∀ (H1 : Heap) (locs1 : List Loc), ZG D (wC ad cy q.2) A s H1 locs1 → W p l e R s m args below meth c H1 locs1 0 0 Q (F0 m (pc + 3) ls (.int q.1 :: rest))) : W p l e R s m args below meth c H locs 0 0 Q (F0 m pc ls (.int a1 :: .int a0 :: .ref (ad 11) :: rest)) :=
  call_V (q := (RX3, TX3, 6)) (n := 2) (As := [.int a0, .int a1]) (rv := some (.int q.1)) 11 3 F K E hA Z (c_X3_fail (l := l) (D := D) (ad := ad) (cy := cy) (ee := ee) hf) ⟨wd620, wd619, wd621, wd622, wd623⟩ (by decide +kernel) rfl rfl hR rfl hl hst hd kk
theorem krX3_62_X8_start {n : Nat}  {q : (Int32 × StT)} (F : CallFix p m c cc nL s args (cw :: Gw) RX3) (K : va_K D vwCl (tyL cy) s) (E : EV ee A s s.heap) (hA : ∀ q, s.heap.size ≤ q → A q) (Z : ZG D (wC ad cy st) A s H locs) (hf : f_X8_start n st = some q) (hR : 1 ≤ R.frames ∧ 20 ≤ R.locals) (hl : ls.size = nL) (hst : (rest.map fun v => v.category).sum ≤ 8) (hd : decode cc pc = .ok (.invokevirtual 62, 3)) (kk : ∀ (H1 : Heap) (locs1 : List Loc), ZG D (wC ad cy q.2) A s H1 locs1 → W p l e R s m args below meth c H1 locs1 0 0 Q (F0 m (pc + 3) ls (.int q.1 :: rest))) : W p l e R s m args below meth c H locs 0 0 Q (F0 m pc ls (.ref (ad 2) :: rest)) :=
  call_V (q := (RX8, TX8, 8)) (n := 0) (As := []) (rv := some (.int q.1)) 2 8 F K E hA Z (c_X8_start (l := l) (D := D) (ad := ad) (cy := cy) (ee := ee) hf) ⟨wd625, wd624, wd626, wd627, wd472⟩ (by decide +kernel) rfl rfl hR rfl hl hst hd kk
theorem krX3_59_X8_look {n : Nat}  {q : (Int32 × StT)} (F : CallFix p m c cc nL s args (cw :: Gw) RX3) (K : va_K D vwCl (tyL cy) s) (E : EV ee A s s.heap) (hA : ∀ q, s.heap.size ≤ q → A q) (Z : ZG D (wC ad cy st) A s H locs) (hf : f_X8_look n st = some q) (hR : 6 ≤ R.frames ∧ 133 ≤ R.locals) (hl : ls.size = nL) (hst : (rest.map fun v => v.category).sum ≤ 8) (hd : decode cc pc = .ok (.invokevirtual 59, 3)) (kk : ∀ (H1 : Heap) (locs1 : List Loc), ZG D (wC ad cy q.2) A s H1 locs1 → W p l e R s m args below meth c H1 locs1 0 0 Q (F0 m (pc + 3) ls (.int q.1 :: rest))) : W p l e R s m args below meth c H locs 0 0 Q (F0 m pc ls (.ref (ad 2) :: rest)) :=
  call_V (q := (RX8, TX8, 8)) (n := 0) (As := []) (rv := some (.int q.1)) 2 8 F K E hA Z (c_X8_look (l := l) (D := D) (ad := ad) (cy := cy) (ee := ee) hf) ⟨wd629, wd628, wd630, wd631, wd472⟩ (by decide +kernel) rfl rfl hR rfl hl hst hd kk
end
set_option maxRecDepth 100000 in
set_option maxHeartbeats 4000000 in
theorem c_X3_look {l : Launch} {D : va_G} {ad : Nat → Nat} {cy : Nat → ClassId} {ee : EE} {n : Nat} {st : StT} {res : (Int32 × StT)} (hf : f_X3_look n st = some res) : CT l yX3_look cX3_look 2 (some .int) 6 133 D cy ee (wC ad cy st) (wC ad cy res.2) [.ref (ad 11)] (some (.int res.1)) := by
  refine CT.of (by decide +kernel) (Nat.le_of_ble_eq_true rfl) ?_
  intro p e s m args below meth c A F hr hk K E hA Z ls hl
  have hl : lv_has ls 2 [(0, .ref (ad 11))] := hl
  have hx := F.1
  have hb := F.2.1
  unfold f_X3_look at hf
  refine lv_aload_n hx hb dX3_look_0 rfl (lv_at hl 0 rfl) ?_
  refine grX3_56_11 F K Z dX3_look_1 ?_
  refine lv_if_eq (tgt := 9) hx hb dX3_look_4 (by decide) (fun c4 => ?_) (fun c4 => ?_)
  · have hf := if_t c4 hf
    refine lv_aload_n hx hb dX3_look_9 rfl (lv_at hl 0 rfl) ?_
    refine grX3_24_11 F K Z dX3_look_10 ?_
    obtain ⟨q13, h13, hf⟩ := bind_some hf
    refine krX3_59_X8_look F K E hA Z h13 ⟨Nat.le_of_ble_eq_true rfl, Nat.le_of_ble_eq_true rfl⟩ hl.1 (Nat.le_of_ble_eq_true rfl) dX3_look_13 (fun H locs Z => ?_)
    refine lv_istore_n (lv' := [(1, .int q13.1), (0, .ref (ad 11))]) hx hb dX3_look_16 rfl hl (by decide) rfl (fun ls hl => ?_)
    refine lv_iload_n hx hb dX3_look_17 rfl (lv_at hl 0 rfl) ?_
    refine lv_iconst (v := -1) hx hb dX3_look_18 (by decide) ?_
    refine lv_icmp_ne (tgt := 35) hx hb dX3_look_19 (by decide) (fun c19 => ?_) (fun c19 => ?_)
    · have hf := if_f c19 hf
      refine lv_iload_n hx hb dX3_look_35 rfl (lv_at hl 0 rfl) ?_
      have hf := Option.some.inj hf
      subst hf
      exact ret_i F hr hk Z dX3_look_36
    have hf := if_t c19 hf
    refine lv_aload_n hx hb dX3_look_22 rfl (lv_at hl 1 rfl) ?_
    refine lv_iconst (v := 1) hx hb dX3_look_23 (by decide) ?_
    refine lv_aload_n hx hb dX3_look_24 rfl (lv_at hl 1 rfl) ?_
    refine grX3_24_11 F K Z dX3_look_25 ?_
    obtain ⟨q28, h28, hf⟩ := bind_some hf
    refine krX3_62_X8_start F K E hA Z h28 ⟨Nat.le_of_ble_eq_true rfl, Nat.le_of_ble_eq_true rfl⟩ hl.1 (Nat.le_of_ble_eq_true rfl) dX3_look_28 (fun H locs Z => ?_)
    obtain ⟨q31, h31, hf⟩ := bind_some hf
    refine krX3_65_X3_fail F K E hA Z h31 ⟨Nat.le_of_ble_eq_true rfl, Nat.le_of_ble_eq_true rfl⟩ hl.1 (Nat.le_of_ble_eq_true rfl) dX3_look_31 (fun H locs Z => ?_)
    refine lv_pop hx hb dX3_look_34 rfl ?_
    refine lv_iload_n hx hb dX3_look_35 rfl (lv_at hl 0 rfl) ?_
    have hf := Option.some.inj hf
    subst hf
    exact ret_i F hr hk Z dX3_look_36
  have hf := if_f c4 hf
  refine lv_iconst (v := -1) hx hb dX3_look_7 (by decide) ?_
  have hf := Option.some.inj hf
  subst hf
  exact ret_i F hr hk Z dX3_look_8



def f_X3_opens (n : Nat) (st : StT) : Option (Int32 × StT) := if (st.1 9) < (40 : Int32) then ((f_X8_take n (uF st 9 ((st.1 9) + (1 : Int32)))).bind fun q38 => (some ((1 : Int32), q38))) else ((f_X8_start n st).bind fun q15 => ((f_X3_fail n q15.2 (3 : Int32) q15.1).bind fun q18 => (some ((0 : Int32), q18.2))))
theorem wd632 : Cond.methodLink RX3 70 yX8_take ∈ Gw := gT3 (List.mem_of_getElem? (i := 132) rfl) rfl
theorem wd633 : Cond.code yX8_take prog_10_method_7_code 1 none ∈ Gw := gT3 (List.mem_of_getElem? (i := 135) rfl) rfl
theorem wd634 : Cond.instanceMethod yX8_take ∈ Gw := gT3 (List.mem_of_getElem? (i := 133) rfl) rfl
theorem wd635 : Cond.selects RX8 yX8_take yX8_take ∈ Gw := gT3 (List.mem_of_getElem? (i := 134) rfl) rfl
section
variable {p : Program} {l : Launch} {e : Env} {R : Room} {s : State} {m : MethodId} {args : Array Value} {below : List Frame} {meth : Method} {c : Code} {H : Heap} {locs : List Loc} {Q : State → Prop}
variable {cc : ByteArray} {nL pc : Nat} {ls : Array Slot} {rest : List Value} {D : va_G} {A : Nat → Prop} {cw : Cond} {ad : Nat → Nat} {cy : Nat → ClassId} {ee : EE} {st : StT} {own : String}
theorem krX3_70_X8_take {n : Nat}  {q : StT} (F : CallFix p m c cc nL s args (cw :: Gw) RX3) (K : va_K D vwCl (tyL cy) s) (E : EV ee A s s.heap) (hA : ∀ q, s.heap.size ≤ q → A q) (Z : ZG D (wC ad cy st) A s H locs) (hf : f_X8_take n st = some q) (hR : 1 ≤ R.frames ∧ 20 ≤ R.locals) (hl : ls.size = nL) (hst : (rest.map fun v => v.category).sum ≤ 8) (hd : decode cc pc = .ok (.invokevirtual 70, 3)) (kk : ∀ (H1 : Heap) (locs1 : List Loc), ZG D (wC ad cy q) A s H1 locs1 → W p l e R s m args below meth c H1 locs1 0 0 Q (F0 m (pc + 3) ls (rest))) : W p l e R s m args below meth c H locs 0 0 Q (F0 m pc ls (.ref (ad 2) :: rest)) :=
  call_V (q := (RX8, TX8, 8)) (n := 0) (As := []) (rv := none) 2 8 F K E hA Z (c_X8_take (l := l) (D := D) (ad := ad) (cy := cy) (ee := ee) hf) ⟨wd633, wd632, wd634, wd635, wd472⟩ (by decide +kernel) rfl rfl hR rfl hl hst hd kk
end
set_option maxRecDepth 100000 in
set_option maxHeartbeats 4000000 in
theorem c_X3_opens {l : Launch} {D : va_G} {ad : Nat → Nat} {cy : Nat → ClassId} {ee : EE} {n : Nat} {st : StT} {res : (Int32 × StT)} (hf : f_X3_opens n st = some res) : CT l yX3_opens cX3_opens 1 (some .boolean) 1 22 D cy ee (wC ad cy st) (wC ad cy res.2) [.ref (ad 11)] (some (.int res.1)) := by
  refine CT.of (by decide +kernel) (Nat.le_of_ble_eq_true rfl) ?_
  intro p e s m args below meth c A F hr hk K E hA Z ls hl
  have hl : lv_has ls 1 [(0, .ref (ad 11))] := hl
  have hx := F.1
  have hb := F.2.1
  unfold f_X3_opens at hf
  refine lv_aload_n hx hb dX3_opens_0 rfl (lv_at hl 0 rfl) ?_
  refine grX3_53_11 F K Z dX3_opens_1 ?_
  refine lv_bipush (v := 40) hx hb dX3_opens_4 (by decide) ?_
  refine lv_icmp_lt (tgt := 24) hx hb dX3_opens_6 (by decide) (fun c6 => ?_) (fun c6 => ?_)
  · have hf := if_t c6 hf
    refine lv_aload_n hx hb dX3_opens_24 rfl (lv_at hl 0 rfl) ?_
    refine lv_dup hx hb dX3_opens_25 rfl ?_
    refine grX3_53_11 F K Z dX3_opens_26 ?_
    refine lv_iconst (v := 1) hx hb dX3_opens_29 (by decide) ?_
    refine lv_iadd hx hb dX3_opens_30 ?_
    refine prX3_53_11 F K Z dX3_opens_31 (fun H locs Z => ?_)
    refine lv_aload_n hx hb dX3_opens_34 rfl (lv_at hl 0 rfl) ?_
    refine grX3_24_11 F K Z dX3_opens_35 ?_
    obtain ⟨q38, h38, hf⟩ := bind_some hf
    refine krX3_70_X8_take F K E hA Z h38 ⟨Nat.le_of_ble_eq_true rfl, Nat.le_of_ble_eq_true rfl⟩ hl.1 (Nat.le_of_ble_eq_true rfl) dX3_opens_38 (fun H locs Z => ?_)
    refine lv_iconst (v := 1) hx hb dX3_opens_41 (by decide) ?_
    have hf := Option.some.inj hf
    subst hf
    exact ret_z F hr hk Z rfl dX3_opens_42
  have hf := if_f c6 hf
  refine lv_aload_n hx hb dX3_opens_9 rfl (lv_at hl 0 rfl) ?_
  refine lv_iconst (v := 3) hx hb dX3_opens_10 (by decide) ?_
  refine lv_aload_n hx hb dX3_opens_11 rfl (lv_at hl 0 rfl) ?_
  refine grX3_24_11 F K Z dX3_opens_12 ?_
  obtain ⟨q15, h15, hf⟩ := bind_some hf
  refine krX3_62_X8_start F K E hA Z h15 ⟨Nat.le_of_ble_eq_true rfl, Nat.le_of_ble_eq_true rfl⟩ hl.1 (Nat.le_of_ble_eq_true rfl) dX3_opens_15 (fun H locs Z => ?_)
  obtain ⟨q18, h18, hf⟩ := bind_some hf
  refine krX3_65_X3_fail F K E hA Z h18 ⟨Nat.le_of_ble_eq_true rfl, Nat.le_of_ble_eq_true rfl⟩ hl.1 (Nat.le_of_ble_eq_true rfl) dX3_opens_18 (fun H locs Z => ?_)
  refine lv_pop hx hb dX3_opens_21 rfl ?_
  refine lv_iconst (v := 0) hx hb dX3_opens_22 (by decide) ?_
  have hf := Option.some.inj hf
  subst hf
  exact ret_z F hr hk Z rfl dX3_opens_23

def f_X3_join (n : Nat) (st : StT) (x1 : Int32) (x2 : Int32) (x3 : Int32) (x4 : Int32) : Option (Int32 × StT) := if (st.1 10) = 0 then ((f_X1_joined_F0 n st x1 x2 x3).bind fun q16 => (if q16.1 < 0 then ((f_X3_fail n q16.2 (5 : Int32) x4).bind fun q35 => (some (q35.1, q35.2))) else (some (q16.1, q16.2)))) else (some ((-1 : Int32), st))
theorem wd636 : Cond.fieldLink RX3 28 "WorldProver$Reader" "formulas" "LWorldProver$Formulas;" ∈ Gw := gT1 (List.mem_of_getElem? (i := 151) rfl) rfl
theorem wd637 : Cond.methodLink RX3 73 yX1_joined ∈ Gw := gT3 (List.mem_of_getElem? (i := 144) rfl) rfl
section
variable {p : Program} {l : Launch} {e : Env} {R : Room} {s : State} {m : MethodId} {args : Array Value} {below : List Frame} {meth : Method} {c : Code} {H : Heap} {locs : List Loc} {Q : State → Prop}
variable {cc : ByteArray} {nL pc : Nat} {ls : Array Slot} {rest : List Value} {D : va_G} {A : Nat → Prop} {cw : Cond} {ad : Nat → Nat} {cy : Nat → ClassId} {ee : EE} {st : StT} {own : String}
theorem grX3_28_11 (F : CallFix p m c cc nL s args (cw :: Gw) RX3) (K : va_K D vwCl (tyL cy) s) (Z : ZG D (wC ad cy st) A s H locs) (hd : decode cc pc = .ok (.getfield 28, 3)) (kk : W p l e R s m args below meth c H locs 0 0 Q (F0 m (pc + 3) ls (.ref (ad 4) :: rest))) : W p l e R s m args below meth c H locs 0 0 Q (F0 m pc ls (.ref (ad 11) :: rest)) :=
  va_get (D := D) (ci := 3) (C := RX3) (T := TX3) (N := 6) F.1 F.2.1 F.2.2.2.2 (fun w h => List.mem_cons_of_mem _ (inG_X3 w h)) F.2.2.2.1 K Z.1 11 rfl rfl 0 (by decide) (F.2.2.2.2 _ (List.mem_cons_of_mem _ wd636)) (fun _ h => h) rfl hd kk
theorem krX3_73_X1_joined_F0 {n : Nat} {a0 : Int32} {a1 : Int32} {a2 : Int32} {q : (Int32 × StT)} (F : CallFix p m c cc nL s args (cw :: Gw) RX3) (K : va_K D vwCl (tyL cy) s) (E : EV ee A s s.heap) (hA : ∀ q, s.heap.size ≤ q → A q) (Z : ZG D (wC ad cy st) A s H locs) (hf : f_X1_joined_F0 n st a0 a1 a2 = some q) (hR : 2 ≤ R.frames ∧ 51 ≤ R.locals) (hl : ls.size = nL) (hst : (rest.map fun v => v.category).sum ≤ 8) (hd : decode cc pc = .ok (.invokevirtual 73, 3)) (kk : ∀ (H1 : Heap) (locs1 : List Loc), ZG D (wC ad cy q.2) A s H1 locs1 → W p l e R s m args below meth c H1 locs1 0 0 Q (F0 m (pc + 3) ls (.int q.1 :: rest))) : W p l e R s m args below meth c H locs 0 0 Q (F0 m pc ls (.int a2 :: .int a1 :: .int a0 :: .ref (ad 4) :: rest)) :=
  call_V (q := (RX1, TX1, 9)) (n := 3) (As := [.int a0, .int a1, .int a2]) (rv := some (.int q.1)) 4 1 F K E hA Z (c_X1_joined_F0 (l := l) (D := D) (ad := ad) (cy := cy) (ee := ee) hf) ⟨wd195, wd637, wd196, wd197, wd17⟩ (by decide +kernel) rfl rfl hR rfl hl hst hd kk
end
set_option maxRecDepth 100000 in
set_option maxHeartbeats 4000000 in
theorem c_X3_join {l : Launch} {D : va_G} {ad : Nat → Nat} {cy : Nat → ClassId} {ee : EE} {n : Nat} {st : StT} {x1 : Int32} {x2 : Int32} {x3 : Int32} {x4 : Int32} {res : (Int32 × StT)} (hf : f_X3_join n st x1 x2 x3 x4 = some res) : CT l yX3_join cX3_join 6 (some .int) 2 51 D cy ee (wC ad cy st) (wC ad cy res.2) [.ref (ad 11), .int x1, .int x2, .int x3, .int x4] (some (.int res.1)) := by
  refine CT.of (by decide +kernel) (Nat.le_of_ble_eq_true rfl) ?_
  intro p e s m args below meth c A F hr hk K E hA Z ls hl
  have hl : lv_has ls 6 [(0, .ref (ad 11)), (1, .int x1), (2, .int x2), (3, .int x3), (4, .int x4)] := hl
  have hx := F.1
  have hb := F.2.1
  unfold f_X3_join at hf
  refine lv_aload_n hx hb dX3_join_0 rfl (lv_at hl 0 rfl) ?_
  refine grX3_56_11 F K Z dX3_join_1 ?_
  refine lv_if_eq (tgt := 9) hx hb dX3_join_4 (by decide) (fun c4 => ?_) (fun c4 => ?_)
  · have hf := if_t c4 hf
    refine lv_aload_n hx hb dX3_join_9 rfl (lv_at hl 0 rfl) ?_
    refine grX3_28_11 F K Z dX3_join_10 ?_
    refine lv_iload_n hx hb dX3_join_13 rfl (lv_at hl 1 rfl) ?_
    refine lv_iload_n hx hb dX3_join_14 rfl (lv_at hl 2 rfl) ?_
    refine lv_iload_n hx hb dX3_join_15 rfl (lv_at hl 3 rfl) ?_
    obtain ⟨q16, h16, hf⟩ := bind_some hf
    refine krX3_73_X1_joined_F0 F K E hA Z h16 ⟨Nat.le_of_ble_eq_true rfl, Nat.le_of_ble_eq_true rfl⟩ hl.1 (Nat.le_of_ble_eq_true rfl) dX3_join_16 (fun H locs Z => ?_)
    refine lv_istore (lv' := [(5, .int q16.1), (0, .ref (ad 11)), (1, .int x1), (2, .int x2), (3, .int x3), (4, .int x4)]) hx hb dX3_join_19 hl (by decide) rfl (fun ls hl => ?_)
    refine lv_iload hx hb dX3_join_21 (lv_at hl 0 rfl) ?_
    refine lv_if_lt (tgt := 31) hx hb dX3_join_23 (by decide) (fun c23 => ?_) (fun c23 => ?_)
    · have hf := if_t c23 hf
      refine lv_aload_n hx hb dX3_join_31 rfl (lv_at hl 1 rfl) ?_
      refine lv_iconst (v := 5) hx hb dX3_join_32 (by decide) ?_
      refine lv_iload hx hb dX3_join_33 (lv_at hl 5 rfl) ?_
      obtain ⟨q35, h35, hf⟩ := bind_some hf
      refine krX3_65_X3_fail F K E hA Z h35 ⟨Nat.le_of_ble_eq_true rfl, Nat.le_of_ble_eq_true rfl⟩ hl.1 (Nat.le_of_ble_eq_true rfl) dX3_join_35 (fun H locs Z => ?_)
      have hf := Option.some.inj hf
      subst hf
      exact ret_i F hr hk Z dX3_join_38
    have hf := if_f c23 hf
    refine lv_iload hx hb dX3_join_26 (lv_at hl 0 rfl) ?_
    refine lv_goto (tgt := 38) hx hb dX3_join_28 (by decide) ?_
    have hf := Option.some.inj hf
    subst hf
    exact ret_i F hr hk Z dX3_join_38
  have hf := if_f c4 hf
  refine lv_iconst (v := -1) hx hb dX3_join_7 (by decide) ?_
  have hf := Option.some.inj hf
  subst hf
  exact ret_i F hr hk Z dX3_join_8



























def f_X3_readVariable (n : Nat) (st : StT) : Option (Int32 × StT) := (f_X8_name n st).bind fun q8 => ((f_X1_named_F0 n q8.2 q8.1).bind fun q11 => (if 0 ≤ q11.1 then ((f_X8_take n q11.2).bind fun q78 => (some (q11.1, q78))) else ((f_X1_hasRoomForVariable_F0 n q11.2).bind fun q23 => (if q23.1 = 0 then ((f_X8_start n q23.2).bind fun q35 => ((f_X3_fail n q35.2 (4 : Int32) q35.1).bind fun q38 => (some (q38.1, q38.2)))) else ((f_X8_name n q23.2).bind fun q50 => ((f_X1_addNamed_F0 n q50.2 q50.1).bind fun q53 => (if 0 ≤ q53.1 then ((f_X8_take n q53.2).bind fun q78 => (some (q53.1, q78))) else ((f_X8_start n q53.2).bind fun q67 => ((f_X3_fail n q67.2 (5 : Int32) q67.1).bind fun q70 => (some (q70.1, q70.2)))))))))))
theorem wd638 : Cond.methodLink RX3 116 yX1_addNamed ∈ Gw := gT3 (List.mem_of_getElem? (i := 128) rfl) rfl
theorem wd639 : Cond.code yX1_addNamed prog_3_method_18_code 4 (some .int) ∈ Gw := gT3 (List.mem_of_getElem? (i := 131) rfl) rfl
theorem wd640 : Cond.instanceMethod yX1_addNamed ∈ Gw := gT3 (List.mem_of_getElem? (i := 129) rfl) rfl
theorem wd641 : Cond.selects RX1 yX1_addNamed yX1_addNamed ∈ Gw := gT3 (List.mem_of_getElem? (i := 130) rfl) rfl
theorem wd642 : Cond.methodLink RX3 105 yX8_name ∈ Gw := gT3 (List.mem_of_getElem? (i := 112) rfl) rfl
theorem wd643 : Cond.code yX8_name prog_10_method_9_code 1 (some .long) ∈ Gw := gT3 (List.mem_of_getElem? (i := 115) rfl) rfl
theorem wd644 : Cond.instanceMethod yX8_name ∈ Gw := gT3 (List.mem_of_getElem? (i := 113) rfl) rfl
theorem wd645 : Cond.selects RX8 yX8_name yX8_name ∈ Gw := gT3 (List.mem_of_getElem? (i := 114) rfl) rfl
theorem wd646 : Cond.methodLink RX3 113 yX1_hasRoomForVariable ∈ Gw := gT3 (List.mem_of_getElem? (i := 124) rfl) rfl
theorem wd647 : Cond.code yX1_hasRoomForVariable prog_3_method_17_code 1 (some .boolean) ∈ Gw := gT3 (List.mem_of_getElem? (i := 127) rfl) rfl
theorem wd648 : Cond.instanceMethod yX1_hasRoomForVariable ∈ Gw := gT3 (List.mem_of_getElem? (i := 125) rfl) rfl
theorem wd649 : Cond.selects RX1 yX1_hasRoomForVariable yX1_hasRoomForVariable ∈ Gw := gT3 (List.mem_of_getElem? (i := 126) rfl) rfl
theorem wd650 : Cond.methodLink RX3 109 yX1_named ∈ Gw := gT3 (List.mem_of_getElem? (i := 116) rfl) rfl
theorem wd651 : Cond.code yX1_named prog_3_method_16_code 4 (some .int) ∈ Gw := gT3 (List.mem_of_getElem? (i := 119) rfl) rfl
theorem wd652 : Cond.instanceMethod yX1_named ∈ Gw := gT3 (List.mem_of_getElem? (i := 117) rfl) rfl
theorem wd653 : Cond.selects RX1 yX1_named yX1_named ∈ Gw := gT3 (List.mem_of_getElem? (i := 118) rfl) rfl
section
variable {p : Program} {l : Launch} {e : Env} {R : Room} {s : State} {m : MethodId} {args : Array Value} {below : List Frame} {meth : Method} {c : Code} {H : Heap} {locs : List Loc} {Q : State → Prop}
variable {cc : ByteArray} {nL pc : Nat} {ls : Array Slot} {rest : List Value} {D : va_G} {A : Nat → Prop} {cw : Cond} {ad : Nat → Nat} {cy : Nat → ClassId} {ee : EE} {st : StT} {own : String}
theorem krX3_116_X1_addNamed_F0 {n : Nat} {a0 : Int64} {q : (Int32 × StT)} (F : CallFix p m c cc nL s args (cw :: Gw) RX3) (K : va_K D vwCl (tyL cy) s) (E : EV ee A s s.heap) (hA : ∀ q, s.heap.size ≤ q → A q) (Z : ZG D (wC ad cy st) A s H locs) (hf : f_X1_addNamed_F0 n st a0 = some q) (hR : 2 ≤ R.frames ∧ 49 ≤ R.locals) (hl : ls.size = nL) (hst : (rest.map fun v => v.category).sum ≤ 8) (hd : decode cc pc = .ok (.invokevirtual 116, 3)) (kk : ∀ (H1 : Heap) (locs1 : List Loc), ZG D (wC ad cy q.2) A s H1 locs1 → W p l e R s m args below meth c H1 locs1 0 0 Q (F0 m (pc + 3) ls (.int q.1 :: rest))) : W p l e R s m args below meth c H locs 0 0 Q (F0 m pc ls (.long a0 :: .ref (ad 4) :: rest)) :=
  call_V (q := (RX1, TX1, 9)) (n := 1) (As := [.long a0]) (rv := some (.int q.1)) 4 1 F K E hA Z (c_X1_addNamed_F0 (l := l) (D := D) (ad := ad) (cy := cy) (ee := ee) hf) ⟨wd639, wd638, wd640, wd641, wd17⟩ (by decide +kernel) rfl rfl hR rfl hl hst hd kk
theorem krX3_105_X8_name {n : Nat}  {q : (Int64 × StT)} (F : CallFix p m c cc nL s args (cw :: Gw) RX3) (K : va_K D vwCl (tyL cy) s) (E : EV ee A s s.heap) (hA : ∀ q, s.heap.size ≤ q → A q) (Z : ZG D (wC ad cy st) A s H locs) (hf : f_X8_name n st = some q) (hR : 1 ≤ R.frames ∧ 20 ≤ R.locals) (hl : ls.size = nL) (hst : (rest.map fun v => v.category).sum ≤ 8) (hd : decode cc pc = .ok (.invokevirtual 105, 3)) (kk : ∀ (H1 : Heap) (locs1 : List Loc), ZG D (wC ad cy q.2) A s H1 locs1 → W p l e R s m args below meth c H1 locs1 0 0 Q (F0 m (pc + 3) ls (.long q.1 :: rest))) : W p l e R s m args below meth c H locs 0 0 Q (F0 m pc ls (.ref (ad 2) :: rest)) :=
  call_V (q := (RX8, TX8, 8)) (n := 0) (As := []) (rv := some (.long q.1)) 2 8 F K E hA Z (c_X8_name (l := l) (D := D) (ad := ad) (cy := cy) (ee := ee) hf) ⟨wd643, wd642, wd644, wd645, wd472⟩ (by decide +kernel) rfl rfl hR rfl hl hst hd kk
theorem krX3_113_X1_hasRoomForVariable_F0 {n : Nat}  {q : (Int32 × StT)} (F : CallFix p m c cc nL s args (cw :: Gw) RX3) (K : va_K D vwCl (tyL cy) s) (E : EV ee A s s.heap) (hA : ∀ q, s.heap.size ≤ q → A q) (Z : ZG D (wC ad cy st) A s H locs) (hf : f_X1_hasRoomForVariable_F0 n st = some q) (hR : 1 ≤ R.frames ∧ 20 ≤ R.locals) (hl : ls.size = nL) (hst : (rest.map fun v => v.category).sum ≤ 8) (hd : decode cc pc = .ok (.invokevirtual 113, 3)) (kk : ∀ (H1 : Heap) (locs1 : List Loc), ZG D (wC ad cy q.2) A s H1 locs1 → W p l e R s m args below meth c H1 locs1 0 0 Q (F0 m (pc + 3) ls (.int q.1 :: rest))) : W p l e R s m args below meth c H locs 0 0 Q (F0 m pc ls (.ref (ad 4) :: rest)) :=
  call_V (q := (RX1, TX1, 9)) (n := 0) (As := []) (rv := some (.int q.1)) 4 1 F K E hA Z (c_X1_hasRoomForVariable_F0 (l := l) (D := D) (ad := ad) (cy := cy) (ee := ee) hf) ⟨wd647, wd646, wd648, wd649, wd17⟩ (by decide +kernel) rfl rfl hR rfl hl hst hd kk
theorem krX3_109_X1_named_F0 {n : Nat} {a0 : Int64} {q : (Int32 × StT)} (F : CallFix p m c cc nL s args (cw :: Gw) RX3) (K : va_K D vwCl (tyL cy) s) (E : EV ee A s s.heap) (hA : ∀ q, s.heap.size ≤ q → A q) (Z : ZG D (wC ad cy st) A s H locs) (hf : f_X1_named_F0 n st a0 = some q) (hR : 3 ≤ R.frames ∧ 72 ≤ R.locals) (hl : ls.size = nL) (hst : (rest.map fun v => v.category).sum ≤ 8) (hd : decode cc pc = .ok (.invokevirtual 109, 3)) (kk : ∀ (H1 : Heap) (locs1 : List Loc), ZG D (wC ad cy q.2) A s H1 locs1 → W p l e R s m args below meth c H1 locs1 0 0 Q (F0 m (pc + 3) ls (.int q.1 :: rest))) : W p l e R s m args below meth c H locs 0 0 Q (F0 m pc ls (.long a0 :: .ref (ad 4) :: rest)) :=
  call_V (q := (RX1, TX1, 9)) (n := 1) (As := [.long a0]) (rv := some (.int q.1)) 4 1 F K E hA Z (c_X1_named_F0 (l := l) (D := D) (ad := ad) (cy := cy) (ee := ee) hf) ⟨wd651, wd650, wd652, wd653, wd17⟩ (by decide +kernel) rfl rfl hR rfl hl hst hd kk
end
set_option maxRecDepth 100000 in
set_option maxHeartbeats 4000000 in
theorem c_X3_readVariable {l : Launch} {D : va_G} {ad : Nat → Nat} {cy : Nat → ClassId} {ee : EE} {n : Nat} {st : StT} {res : (Int32 × StT)} (hf : f_X3_readVariable n st = some res) : CT l yX3_readVariable cX3_readVariable 2 (some .int) 3 72 D cy ee (wC ad cy st) (wC ad cy res.2) [.ref (ad 11)] (some (.int res.1)) := by
  refine CT.of (by decide +kernel) (Nat.le_of_ble_eq_true rfl) ?_
  intro p e s m args below meth c A F hr hk K E hA Z ls hl
  have hl : lv_has ls 2 [(0, .ref (ad 11))] := hl
  have hx := F.1
  have hb := F.2.1
  unfold f_X3_readVariable at hf
  refine lv_aload_n hx hb dX3_readVariable_0 rfl (lv_at hl 0 rfl) ?_
  refine grX3_28_11 F K Z dX3_readVariable_1 ?_
  refine lv_aload_n hx hb dX3_readVariable_4 rfl (lv_at hl 0 rfl) ?_
  refine grX3_24_11 F K Z dX3_readVariable_5 ?_
  obtain ⟨q8, h8, hf⟩ := bind_some hf
  refine krX3_105_X8_name F K E hA Z h8 ⟨Nat.le_of_ble_eq_true rfl, Nat.le_of_ble_eq_true rfl⟩ hl.1 (Nat.le_of_ble_eq_true rfl) dX3_readVariable_8 (fun H locs Z => ?_)
  obtain ⟨q11, h11, hf⟩ := bind_some hf
  refine krX3_109_X1_named_F0 F K E hA Z h11 ⟨Nat.le_of_ble_eq_true rfl, Nat.le_of_ble_eq_true rfl⟩ hl.1 (Nat.le_of_ble_eq_true rfl) dX3_readVariable_11 (fun H locs Z => ?_)
  refine lv_istore_n (lv' := [(1, .int q11.1), (0, .ref (ad 11))]) hx hb dX3_readVariable_14 rfl hl (by decide) rfl (fun ls hl => ?_)
  refine lv_iload_n hx hb dX3_readVariable_15 rfl (lv_at hl 0 rfl) ?_
  refine lv_if_ge (tgt := 74) hx hb dX3_readVariable_16 (by decide) (fun c16 => ?_) (fun c16 => ?_)
  · have hf := if_t c16 hf
    refine lv_aload_n hx hb dX3_readVariable_74 rfl (lv_at hl 1 rfl) ?_
    refine grX3_24_11 F K Z dX3_readVariable_75 ?_
    obtain ⟨q78, h78, hf⟩ := bind_some hf
    refine krX3_70_X8_take F K E hA Z h78 ⟨Nat.le_of_ble_eq_true rfl, Nat.le_of_ble_eq_true rfl⟩ hl.1 (Nat.le_of_ble_eq_true rfl) dX3_readVariable_78 (fun H locs Z => ?_)
    refine lv_iload_n hx hb dX3_readVariable_81 rfl (lv_at hl 0 rfl) ?_
    have hf := Option.some.inj hf
    subst hf
    exact ret_i F hr hk Z dX3_readVariable_82
  have hf := if_f c16 hf
  refine lv_aload_n hx hb dX3_readVariable_19 rfl (lv_at hl 1 rfl) ?_
  refine grX3_28_11 F K Z dX3_readVariable_20 ?_
  obtain ⟨q23, h23, hf⟩ := bind_some hf
  refine krX3_113_X1_hasRoomForVariable_F0 F K E hA Z h23 ⟨Nat.le_of_ble_eq_true rfl, Nat.le_of_ble_eq_true rfl⟩ hl.1 (Nat.le_of_ble_eq_true rfl) dX3_readVariable_23 (fun H locs Z => ?_)
  refine lv_if_ne (tgt := 42) hx hb dX3_readVariable_26 (by decide) (fun c26 => ?_) (fun c26 => ?_)
  · have hf := if_f c26 hf
    refine lv_aload_n hx hb dX3_readVariable_42 rfl (lv_at hl 1 rfl) ?_
    refine grX3_28_11 F K Z dX3_readVariable_43 ?_
    refine lv_aload_n hx hb dX3_readVariable_46 rfl (lv_at hl 1 rfl) ?_
    refine grX3_24_11 F K Z dX3_readVariable_47 ?_
    obtain ⟨q50, h50, hf⟩ := bind_some hf
    refine krX3_105_X8_name F K E hA Z h50 ⟨Nat.le_of_ble_eq_true rfl, Nat.le_of_ble_eq_true rfl⟩ hl.1 (Nat.le_of_ble_eq_true rfl) dX3_readVariable_50 (fun H locs Z => ?_)
    obtain ⟨q53, h53, hf⟩ := bind_some hf
    refine krX3_116_X1_addNamed_F0 F K E hA Z h53 ⟨Nat.le_of_ble_eq_true rfl, Nat.le_of_ble_eq_true rfl⟩ hl.1 (Nat.le_of_ble_eq_true rfl) dX3_readVariable_53 (fun H locs Z => ?_)
    refine lv_istore_n (lv' := [(1, .int q53.1), (0, .ref (ad 11))]) hx hb dX3_readVariable_56 rfl hl (by decide) rfl (fun ls hl => ?_)
    refine lv_iload_n hx hb dX3_readVariable_57 rfl (lv_at hl 0 rfl) ?_
    refine lv_if_ge (tgt := 74) hx hb dX3_readVariable_58 (by decide) (fun c58 => ?_) (fun c58 => ?_)
    · have hf := if_t c58 hf
      refine lv_aload_n hx hb dX3_readVariable_74 rfl (lv_at hl 1 rfl) ?_
      refine grX3_24_11 F K Z dX3_readVariable_75 ?_
      obtain ⟨q78, h78, hf⟩ := bind_some hf
      refine krX3_70_X8_take F K E hA Z h78 ⟨Nat.le_of_ble_eq_true rfl, Nat.le_of_ble_eq_true rfl⟩ hl.1 (Nat.le_of_ble_eq_true rfl) dX3_readVariable_78 (fun H locs Z => ?_)
      refine lv_iload_n hx hb dX3_readVariable_81 rfl (lv_at hl 0 rfl) ?_
      have hf := Option.some.inj hf
      subst hf
      exact ret_i F hr hk Z dX3_readVariable_82
    have hf := if_f c58 hf
    refine lv_aload_n hx hb dX3_readVariable_61 rfl (lv_at hl 1 rfl) ?_
    refine lv_iconst (v := 5) hx hb dX3_readVariable_62 (by decide) ?_
    refine lv_aload_n hx hb dX3_readVariable_63 rfl (lv_at hl 1 rfl) ?_
    refine grX3_24_11 F K Z dX3_readVariable_64 ?_
    obtain ⟨q67, h67, hf⟩ := bind_some hf
    refine krX3_62_X8_start F K E hA Z h67 ⟨Nat.le_of_ble_eq_true rfl, Nat.le_of_ble_eq_true rfl⟩ hl.1 (Nat.le_of_ble_eq_true rfl) dX3_readVariable_67 (fun H locs Z => ?_)
    obtain ⟨q70, h70, hf⟩ := bind_some hf
    refine krX3_65_X3_fail F K E hA Z h70 ⟨Nat.le_of_ble_eq_true rfl, Nat.le_of_ble_eq_true rfl⟩ hl.1 (Nat.le_of_ble_eq_true rfl) dX3_readVariable_70 (fun H locs Z => ?_)
    have hf := Option.some.inj hf
    subst hf
    exact ret_i F hr hk Z dX3_readVariable_73
  have hf := if_t c26 hf
  refine lv_aload_n hx hb dX3_readVariable_29 rfl (lv_at hl 1 rfl) ?_
  refine lv_iconst (v := 4) hx hb dX3_readVariable_30 (by decide) ?_
  refine lv_aload_n hx hb dX3_readVariable_31 rfl (lv_at hl 1 rfl) ?_
  refine grX3_24_11 F K Z dX3_readVariable_32 ?_
  obtain ⟨q35, h35, hf⟩ := bind_some hf
  refine krX3_62_X8_start F K E hA Z h35 ⟨Nat.le_of_ble_eq_true rfl, Nat.le_of_ble_eq_true rfl⟩ hl.1 (Nat.le_of_ble_eq_true rfl) dX3_readVariable_35 (fun H locs Z => ?_)
  obtain ⟨q38, h38, hf⟩ := bind_some hf
  refine krX3_65_X3_fail F K E hA Z h38 ⟨Nat.le_of_ble_eq_true rfl, Nat.le_of_ble_eq_true rfl⟩ hl.1 (Nat.le_of_ble_eq_true rfl) dX3_readVariable_38 (fun H locs Z => ?_)
  have hf := Option.some.inj hf
  subst hf
  exact ret_i F hr hk Z dX3_readVariable_41
def f_X3_readLeaf (n : Nat) (st : StT) (x1 : Int32) : Option (Int32 × StT) := if x1 = 102 then ((f_X8_take n st).bind fun q54 => (some ((0 : Int32), q54))) else (if x1 = 110 then ((f_X3_readVariable n st).bind fun q37 => (some (q37.1, q37.2))) else (if x1 = 116 then ((f_X8_take n st).bind fun q45 => (some ((1 : Int32), q45))) else ((f_X8_start n st).bind fun q65 => ((f_X3_fail n q65.2 (2 : Int32) q65.1).bind fun q68 => (some (q68.1, q68.2))))))
theorem wd654 : Cond.methodLink RX3 102 yX3_readVariable ∈ Gw := gT3 (List.mem_of_getElem? (i := 108) rfl) rfl
theorem wd655 : Cond.code yX3_readVariable prog_5_method_16_code 2 (some .int) ∈ Gw := gT3 (List.mem_of_getElem? (i := 111) rfl) rfl
theorem wd656 : Cond.instanceMethod yX3_readVariable ∈ Gw := gT3 (List.mem_of_getElem? (i := 110) rfl) rfl
theorem wd657 : Cond.selects RX3 yX3_readVariable yX3_readVariable ∈ Gw := gP1 (q := (yX3_readVariable, 6)) (List.mem_of_getElem? (i := 14) rfl)
section
variable {p : Program} {l : Launch} {e : Env} {R : Room} {s : State} {m : MethodId} {args : Array Value} {below : List Frame} {meth : Method} {c : Code} {H : Heap} {locs : List Loc} {Q : State → Prop}
variable {cc : ByteArray} {nL pc : Nat} {ls : Array Slot} {rest : List Value} {D : va_G} {A : Nat → Prop} {cw : Cond} {ad : Nat → Nat} {cy : Nat → ClassId} {ee : EE} {st : StT} {own : String}
theorem krX3_102_X3_readVariable {n : Nat}  {q : (Int32 × StT)} (F : CallFix p m c cc nL s args (cw :: Gw) RX3) (K : va_K D vwCl (tyL cy) s) (E : EV ee A s s.heap) (hA : ∀ q, s.heap.size ≤ q → A q) (Z : ZG D (wC ad cy st) A s H locs) (hf : f_X3_readVariable n st = some q) (hR : 4 ≤ R.frames ∧ 93 ≤ R.locals) (hl : ls.size = nL) (hst : (rest.map fun v => v.category).sum ≤ 8) (hd : decode cc pc = .ok (.invokevirtual 102, 3)) (kk : ∀ (H1 : Heap) (locs1 : List Loc), ZG D (wC ad cy q.2) A s H1 locs1 → W p l e R s m args below meth c H1 locs1 0 0 Q (F0 m (pc + 3) ls (.int q.1 :: rest))) : W p l e R s m args below meth c H locs 0 0 Q (F0 m pc ls (.ref (ad 11) :: rest)) :=
  call_V (q := (RX3, TX3, 6)) (n := 0) (As := []) (rv := some (.int q.1)) 11 3 F K E hA Z (c_X3_readVariable (l := l) (D := D) (ad := ad) (cy := cy) (ee := ee) hf) ⟨wd655, wd654, wd656, wd657, wd623⟩ (by decide +kernel) rfl rfl hR rfl hl hst hd kk
end
set_option maxRecDepth 100000 in
set_option maxHeartbeats 4000000 in
theorem c_X3_readLeaf {l : Launch} {D : va_G} {ad : Nat → Nat} {cy : Nat → ClassId} {ee : EE} {n : Nat} {st : StT} {x1 : Int32} {res : (Int32 × StT)} (hf : f_X3_readLeaf n st x1 = some res) : CT l yX3_readLeaf cX3_readLeaf 2 (some .int) 4 93 D cy ee (wC ad cy st) (wC ad cy res.2) [.ref (ad 11), .int x1] (some (.int res.1)) := by
  refine CT.of (by decide +kernel) (Nat.le_of_ble_eq_true rfl) ?_
  intro p e s m args below meth c A F hr hk K E hA Z ls hl
  have hl : lv_has ls 2 [(0, .ref (ad 11)), (1, .int x1)] := hl
  have hx := F.1
  have hb := F.2.1
  unfold f_X3_readLeaf at hf
  refine lv_iload_n hx hb dX3_readLeaf_0 rfl (lv_at hl 1 rfl) ?_
  by_cases c1_102 : x1 = 102
  · have hf := if_t c1_102 hf
    refine lv_lookup (tgt := 50) hx hb dX3_readLeaf_1 (by decide) (by rw [c1_102] <;> decide) (by decide) ?_
    refine lv_aload_n hx hb dX3_readLeaf_50 rfl (lv_at hl 0 rfl) ?_
    refine grX3_24_11 F K Z dX3_readLeaf_51 ?_
    obtain ⟨q54, h54, hf⟩ := bind_some hf
    refine krX3_70_X8_take F K E hA Z h54 ⟨Nat.le_of_ble_eq_true rfl, Nat.le_of_ble_eq_true rfl⟩ hl.1 (Nat.le_of_ble_eq_true rfl) dX3_readLeaf_54 (fun H locs Z => ?_)
    refine lv_iconst (v := 0) hx hb dX3_readLeaf_57 (by decide) ?_
    have hf := Option.some.inj hf
    subst hf
    exact ret_i F hr hk Z dX3_readLeaf_58
  have hf := if_f c1_102 hf
  by_cases c1_110 : x1 = 110
  · have hf := if_t c1_110 hf
    refine lv_lookup (tgt := 36) hx hb dX3_readLeaf_1 (by decide) (by rw [c1_110] <;> decide) (by decide) ?_
    refine lv_aload_n hx hb dX3_readLeaf_36 rfl (lv_at hl 0 rfl) ?_
    obtain ⟨q37, h37, hf⟩ := bind_some hf
    refine krX3_102_X3_readVariable F K E hA Z h37 ⟨Nat.le_of_ble_eq_true rfl, Nat.le_of_ble_eq_true rfl⟩ hl.1 (Nat.le_of_ble_eq_true rfl) dX3_readLeaf_37 (fun H locs Z => ?_)
    have hf := Option.some.inj hf
    subst hf
    exact ret_i F hr hk Z dX3_readLeaf_40
  have hf := if_f c1_110 hf
  by_cases c1_116 : x1 = 116
  · have hf := if_t c1_116 hf
    refine lv_lookup (tgt := 41) hx hb dX3_readLeaf_1 (by decide) (by rw [c1_116] <;> decide) (by decide) ?_
    refine lv_aload_n hx hb dX3_readLeaf_41 rfl (lv_at hl 0 rfl) ?_
    refine grX3_24_11 F K Z dX3_readLeaf_42 ?_
    obtain ⟨q45, h45, hf⟩ := bind_some hf
    refine krX3_70_X8_take F K E hA Z h45 ⟨Nat.le_of_ble_eq_true rfl, Nat.le_of_ble_eq_true rfl⟩ hl.1 (Nat.le_of_ble_eq_true rfl) dX3_readLeaf_45 (fun H locs Z => ?_)
    refine lv_iconst (v := 1) hx hb dX3_readLeaf_48 (by decide) ?_
    have hf := Option.some.inj hf
    subst hf
    exact ret_i F hr hk Z dX3_readLeaf_49
  have hf := if_f c1_116 hf
  refine lv_lookup (tgt := 59) hx hb dX3_readLeaf_1 (by decide) (off := 58) ?_ (by decide) ?_
  · exact (lv_osw c1_102 (by decide)).trans ((lv_osw c1_110 (by decide)).trans ((lv_osw c1_116 (by decide)).trans (rfl)))
  refine lv_aload_n hx hb dX3_readLeaf_59 rfl (lv_at hl 0 rfl) ?_
  refine lv_iconst (v := 2) hx hb dX3_readLeaf_60 (by decide) ?_
  refine lv_aload_n hx hb dX3_readLeaf_61 rfl (lv_at hl 0 rfl) ?_
  refine grX3_24_11 F K Z dX3_readLeaf_62 ?_
  obtain ⟨q65, h65, hf⟩ := bind_some hf
  refine krX3_62_X8_start F K E hA Z h65 ⟨Nat.le_of_ble_eq_true rfl, Nat.le_of_ble_eq_true rfl⟩ hl.1 (Nat.le_of_ble_eq_true rfl) dX3_readLeaf_65 (fun H locs Z => ?_)
  obtain ⟨q68, h68, hf⟩ := bind_some hf
  refine krX3_65_X3_fail F K E hA Z h68 ⟨Nat.le_of_ble_eq_true rfl, Nat.le_of_ble_eq_true rfl⟩ hl.1 (Nat.le_of_ble_eq_true rfl) dX3_readLeaf_68 (fun H locs Z => ?_)
  have hf := Option.some.inj hf
  subst hf
  exact ret_i F hr hk Z dX3_readLeaf_71





def f_X3_expect (n : Nat) (st : StT) (x1 : Int32) : Option StT := (f_X3_look n st).bind fun q1 => (if q1.1 = x1 then ((f_X8_take n q1.2).bind fun q12 => (some q12)) else ((f_X8_start n q1.2).bind fun q24 => ((f_X3_fail n q24.2 (2 : Int32) q24.1).bind fun q27 => (some q27.2))))
theorem wd658 : Cond.methodLink RX3 69 yX3_look ∈ Gw := gT2 (List.mem_of_getElem? (i := 215) rfl) rfl
theorem wd659 : Cond.code yX3_look prog_5_method_6_code 2 (some .int) ∈ Gw := gT2 (List.mem_of_getElem? (i := 218) rfl) rfl
theorem wd660 : Cond.instanceMethod yX3_look ∈ Gw := gT2 (List.mem_of_getElem? (i := 217) rfl) rfl
theorem wd661 : Cond.selects RX3 yX3_look yX3_look ∈ Gw := gP1 (q := (yX3_look, 6)) (List.mem_of_getElem? (i := 8) rfl)
section
variable {p : Program} {l : Launch} {e : Env} {R : Room} {s : State} {m : MethodId} {args : Array Value} {below : List Frame} {meth : Method} {c : Code} {H : Heap} {locs : List Loc} {Q : State → Prop}
variable {cc : ByteArray} {nL pc : Nat} {ls : Array Slot} {rest : List Value} {D : va_G} {A : Nat → Prop} {cw : Cond} {ad : Nat → Nat} {cy : Nat → ClassId} {ee : EE} {st : StT} {own : String}
theorem krX3_69_X3_look {n : Nat}  {q : (Int32 × StT)} (F : CallFix p m c cc nL s args (cw :: Gw) RX3) (K : va_K D vwCl (tyL cy) s) (E : EV ee A s s.heap) (hA : ∀ q, s.heap.size ≤ q → A q) (Z : ZG D (wC ad cy st) A s H locs) (hf : f_X3_look n st = some q) (hR : 7 ≤ R.frames ∧ 154 ≤ R.locals) (hl : ls.size = nL) (hst : (rest.map fun v => v.category).sum ≤ 8) (hd : decode cc pc = .ok (.invokevirtual 69, 3)) (kk : ∀ (H1 : Heap) (locs1 : List Loc), ZG D (wC ad cy q.2) A s H1 locs1 → W p l e R s m args below meth c H1 locs1 0 0 Q (F0 m (pc + 3) ls (.int q.1 :: rest))) : W p l e R s m args below meth c H locs 0 0 Q (F0 m pc ls (.ref (ad 11) :: rest)) :=
  call_V (q := (RX3, TX3, 6)) (n := 0) (As := []) (rv := some (.int q.1)) 11 3 F K E hA Z (c_X3_look (l := l) (D := D) (ad := ad) (cy := cy) (ee := ee) hf) ⟨wd659, wd658, wd660, wd661, wd623⟩ (by decide +kernel) rfl rfl hR rfl hl hst hd kk
end
set_option maxRecDepth 100000 in
set_option maxHeartbeats 4000000 in
theorem c_X3_expect {l : Launch} {D : va_G} {ad : Nat → Nat} {cy : Nat → ClassId} {ee : EE} {n : Nat} {st : StT} {x1 : Int32} {res : StT} (hf : f_X3_expect n st x1 = some res) : CT l yX3_expect cX3_expect 2 none 7 154 D cy ee (wC ad cy st) (wC ad cy res) [.ref (ad 11), .int x1] (none) := by
  refine CT.of (by decide +kernel) (Nat.le_of_ble_eq_true rfl) ?_
  intro p e s m args below meth c A F hr hk K E hA Z ls hl
  have hl : lv_has ls 2 [(0, .ref (ad 11)), (1, .int x1)] := hl
  have hx := F.1
  have hb := F.2.1
  unfold f_X3_expect at hf
  refine lv_aload_n hx hb dX3_expect_0 rfl (lv_at hl 0 rfl) ?_
  obtain ⟨q1, h1, hf⟩ := bind_some hf
  refine krX3_69_X3_look F K E hA Z h1 ⟨Nat.le_of_ble_eq_true rfl, Nat.le_of_ble_eq_true rfl⟩ hl.1 (Nat.le_of_ble_eq_true rfl) dX3_expect_1 (fun H locs Z => ?_)
  refine lv_iload_n hx hb dX3_expect_4 rfl (lv_at hl 1 rfl) ?_
  refine lv_icmp_ne (tgt := 18) hx hb dX3_expect_5 (by decide) (fun c5 => ?_) (fun c5 => ?_)
  · have hf := if_f c5 hf
    refine lv_aload_n hx hb dX3_expect_18 rfl (lv_at hl 0 rfl) ?_
    refine lv_iconst (v := 2) hx hb dX3_expect_19 (by decide) ?_
    refine lv_aload_n hx hb dX3_expect_20 rfl (lv_at hl 0 rfl) ?_
    refine grX3_24_11 F K Z dX3_expect_21 ?_
    obtain ⟨q24, h24, hf⟩ := bind_some hf
    refine krX3_62_X8_start F K E hA Z h24 ⟨Nat.le_of_ble_eq_true rfl, Nat.le_of_ble_eq_true rfl⟩ hl.1 (Nat.le_of_ble_eq_true rfl) dX3_expect_24 (fun H locs Z => ?_)
    obtain ⟨q27, h27, hf⟩ := bind_some hf
    refine krX3_65_X3_fail F K E hA Z h27 ⟨Nat.le_of_ble_eq_true rfl, Nat.le_of_ble_eq_true rfl⟩ hl.1 (Nat.le_of_ble_eq_true rfl) dX3_expect_27 (fun H locs Z => ?_)
    refine lv_pop hx hb dX3_expect_30 rfl ?_
    have hf := Option.some.inj hf
    subst hf
    exact ret_v F hr hk Z dX3_expect_31
  have hf := if_t c5 hf
  refine lv_aload_n hx hb dX3_expect_8 rfl (lv_at hl 0 rfl) ?_
  refine grX3_24_11 F K Z dX3_expect_9 ?_
  obtain ⟨q12, h12, hf⟩ := bind_some hf
  refine krX3_70_X8_take F K E hA Z h12 ⟨Nat.le_of_ble_eq_true rfl, Nat.le_of_ble_eq_true rfl⟩ hl.1 (Nat.le_of_ble_eq_true rfl) dX3_expect_12 (fun H locs Z => ?_)
  refine lv_goto (tgt := 31) hx hb dX3_expect_15 (by decide) ?_
  have hf := Option.some.inj hf
  subst hf
  exact ret_v F hr hk Z dX3_expect_31



def g_X3_readBothWays (n : Nat) (r_X3_readBothWays : StT → Option (Int32 × StT)) (r_X3_readImplication : StT → Option (Int32 × StT)) (r_X3_readOr : StT → Option (Int32 × StT)) (r_X3_readAnd : StT → Option (Int32 × StT)) (r_X3_readNot : StT → Option (Int32 × StT)) (st : StT) : Option (Int32 × StT) := (r_X3_readImplication st).bind fun q1 => ((f_X3_look n q1.2).bind fun q6 => (if q6.1 = (61 : Int32) then ((f_X8_start n q6.2).bind fun q20 => ((f_X3_opens n q20.2).bind fun q25 => (if q25.1 = 0 then (some ((-1 : Int32), q25.2)) else ((r_X3_readImplication q25.2).bind fun q34 => ((f_X3_join n (uF q34.2 9 ((q34.2.1 9) - (1 : Int32))) (5 : Int32) q1.1 q34.1 q20.1).bind fun q53 => ((f_X3_join n q53.2 (5 : Int32) q34.1 q1.1 q20.1).bind fun q63 => ((f_X3_join n q63.2 (3 : Int32) q53.1 q63.1 q20.1).bind fun q75 => (some (q75.1, q75.2))))))))) else (some (q1.1, q6.2))))
def g_X3_readImplication (n : Nat) (r_X3_readBothWays : StT → Option (Int32 × StT)) (r_X3_readImplication : StT → Option (Int32 × StT)) (r_X3_readOr : StT → Option (Int32 × StT)) (r_X3_readAnd : StT → Option (Int32 × StT)) (r_X3_readNot : StT → Option (Int32 × StT)) (st : StT) : Option (Int32 × StT) := (r_X3_readOr st).bind fun q1 => ((f_X3_look n q1.2).bind fun q6 => (if q6.1 = (62 : Int32) then ((f_X8_start n q6.2).bind fun q20 => ((f_X3_opens n q20.2).bind fun q25 => (if q25.1 = 0 then (some ((-1 : Int32), q25.2)) else ((r_X3_readImplication q25.2).bind fun q34 => ((f_X3_join n (uF q34.2 9 ((q34.2.1 9) - (1 : Int32))) (5 : Int32) q1.1 q34.1 q20.1).bind fun q53 => (some (q53.1, q53.2))))))) else (some (q1.1, q6.2))))
def f_X3_readOr_7 (n : Nat) (r_X3_readBothWays : StT → Option (Int32 × StT)) (r_X3_readImplication : StT → Option (Int32 × StT)) (r_X3_readOr : StT → Option (Int32 × StT)) (r_X3_readAnd : StT → Option (Int32 × StT)) (r_X3_readNot : StT → Option (Int32 × StT)) : Nat → StT → Int32 → Int32 → Option (Int32 × StT)
  | 0, _, _, _ => none
  | k + 1, st, x1, x2 => if (3000 : Int32) ≤ x2 then (some (x1, st)) else ((f_X3_look n st).bind fun q15 => (if q15.1 = (124 : Int32) then ((f_X8_start n q15.2).bind fun q27 => ((f_X8_take n q27.2).bind fun q35 => ((r_X3_readAnd q35).bind fun q42 => ((f_X3_join n q42.2 (4 : Int32) x1 q42.1 q27.1).bind fun q46 => (f_X3_readOr_7 n r_X3_readBothWays r_X3_readImplication r_X3_readOr r_X3_readAnd r_X3_readNot k q46.2 q46.1 (x2 + (1 : Int32))))))) else (some (x1, q15.2))))
def g_X3_readOr (n : Nat) (r_X3_readBothWays : StT → Option (Int32 × StT)) (r_X3_readImplication : StT → Option (Int32 × StT)) (r_X3_readOr : StT → Option (Int32 × StT)) (r_X3_readAnd : StT → Option (Int32 × StT)) (r_X3_readNot : StT → Option (Int32 × StT)) (st : StT) : Option (Int32 × StT) := (r_X3_readAnd st).bind fun q1 => (f_X3_readOr_7 n r_X3_readBothWays r_X3_readImplication r_X3_readOr r_X3_readAnd r_X3_readNot n q1.2 q1.1 (0 : Int32))
def f_X3_readAnd_7 (n : Nat) (r_X3_readBothWays : StT → Option (Int32 × StT)) (r_X3_readImplication : StT → Option (Int32 × StT)) (r_X3_readOr : StT → Option (Int32 × StT)) (r_X3_readAnd : StT → Option (Int32 × StT)) (r_X3_readNot : StT → Option (Int32 × StT)) : Nat → StT → Int32 → Int32 → Option (Int32 × StT)
  | 0, _, _, _ => none
  | k + 1, st, x1, x2 => if (3000 : Int32) ≤ x2 then (some (x1, st)) else ((f_X3_look n st).bind fun q15 => (if q15.1 = (38 : Int32) then ((f_X8_start n q15.2).bind fun q27 => ((f_X8_take n q27.2).bind fun q35 => ((r_X3_readNot q35).bind fun q42 => ((f_X3_join n q42.2 (3 : Int32) x1 q42.1 q27.1).bind fun q46 => (f_X3_readAnd_7 n r_X3_readBothWays r_X3_readImplication r_X3_readOr r_X3_readAnd r_X3_readNot k q46.2 q46.1 (x2 + (1 : Int32))))))) else (some (x1, q15.2))))
def g_X3_readAnd (n : Nat) (r_X3_readBothWays : StT → Option (Int32 × StT)) (r_X3_readImplication : StT → Option (Int32 × StT)) (r_X3_readOr : StT → Option (Int32 × StT)) (r_X3_readAnd : StT → Option (Int32 × StT)) (r_X3_readNot : StT → Option (Int32 × StT)) (st : StT) : Option (Int32 × StT) := (r_X3_readNot st).bind fun q1 => (f_X3_readAnd_7 n r_X3_readBothWays r_X3_readImplication r_X3_readOr r_X3_readAnd r_X3_readNot n q1.2 q1.1 (0 : Int32))
def f_X3_readNot_72 (n : Nat) (r_X3_readBothWays : StT → Option (Int32 × StT)) (r_X3_readImplication : StT → Option (Int32 × StT)) (r_X3_readOr : StT → Option (Int32 × StT)) (r_X3_readAnd : StT → Option (Int32 × StT)) (r_X3_readNot : StT → Option (Int32 × StT)) (st : StT) (x3 : Int32) : Option (Int32 × StT) := some (x3, (uF st 9 ((st.1 9) - (1 : Int32))))
def f_X3_readNot_23 (n : Nat) (r_X3_readBothWays : StT → Option (Int32 × StT)) (r_X3_readImplication : StT → Option (Int32 × StT)) (r_X3_readOr : StT → Option (Int32 × StT)) (r_X3_readAnd : StT → Option (Int32 × StT)) (r_X3_readNot : StT → Option (Int32 × StT)) (st : StT) (x1 : Int32) : Option (Int32 × StT) := (f_X8_start n st).bind fun q27 => ((f_X3_opens n q27.2).bind fun q32 => (if q32.1 = 0 then (some ((-1 : Int32), q32.2)) else (if x1 = (126 : Int32) then ((r_X3_readNot q32.2).bind fun q49 => ((f_X3_join n q49.2 (5 : Int32) q49.1 (0 : Int32) q27.1).bind fun q54 => (f_X3_readNot_72 n r_X3_readBothWays r_X3_readImplication r_X3_readOr r_X3_readAnd r_X3_readNot q54.2 q54.1))) else ((r_X3_readBothWays q32.2).bind fun q62 => ((f_X3_expect n q62.2 (41 : Int32)).bind fun q69 => (f_X3_readNot_72 n r_X3_readBothWays r_X3_readImplication r_X3_readOr r_X3_readAnd r_X3_readNot q69 q62.1))))))
def g_X3_readNot (n : Nat) (r_X3_readBothWays : StT → Option (Int32 × StT)) (r_X3_readImplication : StT → Option (Int32 × StT)) (r_X3_readOr : StT → Option (Int32 × StT)) (r_X3_readAnd : StT → Option (Int32 × StT)) (r_X3_readNot : StT → Option (Int32 × StT)) (st : StT) : Option (Int32 × StT) := (f_X3_look n st).bind fun q1 => (if q1.1 = (126 : Int32) then (f_X3_readNot_23 n r_X3_readBothWays r_X3_readImplication r_X3_readOr r_X3_readAnd r_X3_readNot q1.2 q1.1) else (if q1.1 = (40 : Int32) then (f_X3_readNot_23 n r_X3_readBothWays r_X3_readImplication r_X3_readOr r_X3_readAnd r_X3_readNot q1.2 q1.1) else ((f_X3_readLeaf n q1.2 q1.1).bind fun q19 => (some (q19.1, q19.2)))))
theorem wd662 : Cond.methodLink RX3 86 yX3_join ∈ Gw := gT3 (List.mem_of_getElem? (i := 140) rfl) rfl
theorem wd663 : Cond.code yX3_join prog_5_method_9_code 6 (some .int) ∈ Gw := gT3 (List.mem_of_getElem? (i := 143) rfl) rfl
theorem wd664 : Cond.instanceMethod yX3_join ∈ Gw := gT3 (List.mem_of_getElem? (i := 142) rfl) rfl
theorem wd665 : Cond.selects RX3 yX3_join yX3_join ∈ Gw := gP2 (q := (yX3_join, 6)) (List.mem_of_getElem? (i := 0) rfl)
theorem wd666 : Cond.methodLink RX3 79 yX3_readImplication ∈ Gw := gT2 (List.mem_of_getElem? (i := 199) rfl) rfl
theorem wd667 : Cond.code yX3_readImplication prog_5_method_11_code 4 (some .int) ∈ Gw := gT2 (List.mem_of_getElem? (i := 202) rfl) rfl
theorem wd668 : Cond.instanceMethod yX3_readImplication ∈ Gw := gT2 (List.mem_of_getElem? (i := 201) rfl) rfl
theorem wd669 : Cond.selects RX3 yX3_readImplication yX3_readImplication ∈ Gw := gP1 (q := (yX3_readImplication, 6)) (List.mem_of_getElem? (i := 4) rfl)
theorem wd670 : Cond.methodLink RX3 82 yX3_opens ∈ Gw := gT3 (List.mem_of_getElem? (i := 136) rfl) rfl
theorem wd671 : Cond.code yX3_opens prog_5_method_8_code 1 (some .boolean) ∈ Gw := gT3 (List.mem_of_getElem? (i := 139) rfl) rfl
theorem wd672 : Cond.instanceMethod yX3_opens ∈ Gw := gT3 (List.mem_of_getElem? (i := 138) rfl) rfl
theorem wd673 : Cond.selects RX3 yX3_opens yX3_opens ∈ Gw := gP1 (q := (yX3_opens, 6)) (List.mem_of_getElem? (i := 15) rfl)
theorem wd674 : Cond.methodLink RX3 90 yX3_readOr ∈ Gw := gT2 (List.mem_of_getElem? (i := 203) rfl) rfl
theorem wd675 : Cond.code yX3_readOr prog_5_method_12_code 4 (some .int) ∈ Gw := gT2 (List.mem_of_getElem? (i := 206) rfl) rfl
theorem wd676 : Cond.instanceMethod yX3_readOr ∈ Gw := gT2 (List.mem_of_getElem? (i := 205) rfl) rfl
theorem wd677 : Cond.selects RX3 yX3_readOr yX3_readOr ∈ Gw := gP1 (q := (yX3_readOr, 6)) (List.mem_of_getElem? (i := 5) rfl)
theorem wd678 : Cond.methodLink RX3 93 yX3_readAnd ∈ Gw := gT2 (List.mem_of_getElem? (i := 207) rfl) rfl
theorem wd679 : Cond.code yX3_readAnd prog_5_method_13_code 4 (some .int) ∈ Gw := gT2 (List.mem_of_getElem? (i := 210) rfl) rfl
theorem wd680 : Cond.instanceMethod yX3_readAnd ∈ Gw := gT2 (List.mem_of_getElem? (i := 209) rfl) rfl
theorem wd681 : Cond.selects RX3 yX3_readAnd yX3_readAnd ∈ Gw := gP1 (q := (yX3_readAnd, 6)) (List.mem_of_getElem? (i := 6) rfl)
theorem wd682 : Cond.methodLink RX3 96 yX3_readNot ∈ Gw := gT2 (List.mem_of_getElem? (i := 211) rfl) rfl
theorem wd683 : Cond.code yX3_readNot prog_5_method_14_code 4 (some .int) ∈ Gw := gT2 (List.mem_of_getElem? (i := 214) rfl) rfl
theorem wd684 : Cond.instanceMethod yX3_readNot ∈ Gw := gT2 (List.mem_of_getElem? (i := 213) rfl) rfl
theorem wd685 : Cond.selects RX3 yX3_readNot yX3_readNot ∈ Gw := gP1 (q := (yX3_readNot, 6)) (List.mem_of_getElem? (i := 7) rfl)
theorem wd686 : Cond.methodLink RX3 99 yX3_readLeaf ∈ Gw := gT3 (List.mem_of_getElem? (i := 104) rfl) rfl
theorem wd687 : Cond.code yX3_readLeaf prog_5_method_15_code 2 (some .int) ∈ Gw := gT3 (List.mem_of_getElem? (i := 107) rfl) rfl
theorem wd688 : Cond.instanceMethod yX3_readLeaf ∈ Gw := gT3 (List.mem_of_getElem? (i := 106) rfl) rfl
theorem wd689 : Cond.selects RX3 yX3_readLeaf yX3_readLeaf ∈ Gw := gP1 (q := (yX3_readLeaf, 6)) (List.mem_of_getElem? (i := 13) rfl)
theorem wd690 : Cond.methodLink RX3 42 yX3_expect ∈ Gw := gT3 (List.mem_of_getElem? (i := 145) rfl) rfl
theorem wd691 : Cond.code yX3_expect prog_5_method_7_code 2 none ∈ Gw := gT3 (List.mem_of_getElem? (i := 148) rfl) rfl
theorem wd692 : Cond.instanceMethod yX3_expect ∈ Gw := gT3 (List.mem_of_getElem? (i := 147) rfl) rfl
theorem wd693 : Cond.selects RX3 yX3_expect yX3_expect ∈ Gw := gP2 (q := (yX3_expect, 6)) (List.mem_of_getElem? (i := 1) rfl)
theorem wd694 : Cond.methodLink RX3 36 yX3_readBothWays ∈ Gw := gT2 (List.mem_of_getElem? (i := 195) rfl) rfl
theorem wd695 : Cond.code yX3_readBothWays prog_5_method_10_code 6 (some .int) ∈ Gw := gT2 (List.mem_of_getElem? (i := 198) rfl) rfl
theorem wd696 : Cond.instanceMethod yX3_readBothWays ∈ Gw := gT2 (List.mem_of_getElem? (i := 197) rfl) rfl
theorem wd697 : Cond.selects RX3 yX3_readBothWays yX3_readBothWays ∈ Gw := gP1 (q := (yX3_readBothWays, 6)) (List.mem_of_getElem? (i := 3) rfl)
section
variable {p : Program} {l : Launch} {e : Env} {R : Room} {s : State} {m : MethodId} {args : Array Value} {below : List Frame} {meth : Method} {c : Code} {H : Heap} {locs : List Loc} {Q : State → Prop}
variable {cc : ByteArray} {nL pc : Nat} {ls : Array Slot} {rest : List Value} {D : va_G} {A : Nat → Prop} {cw : Cond} {ad : Nat → Nat} {cy : Nat → ClassId} {ee : EE} {st : StT} {own : String}
theorem krX3_86_X3_join {n : Nat} {a0 : Int32} {a1 : Int32} {a2 : Int32} {a3 : Int32} {q : (Int32 × StT)} (F : CallFix p m c cc nL s args (cw :: Gw) RX3) (K : va_K D vwCl (tyL cy) s) (E : EV ee A s s.heap) (hA : ∀ q, s.heap.size ≤ q → A q) (Z : ZG D (wC ad cy st) A s H locs) (hf : f_X3_join n st a0 a1 a2 a3 = some q) (hR : 3 ≤ R.frames ∧ 76 ≤ R.locals) (hl : ls.size = nL) (hst : (rest.map fun v => v.category).sum ≤ 8) (hd : decode cc pc = .ok (.invokevirtual 86, 3)) (kk : ∀ (H1 : Heap) (locs1 : List Loc), ZG D (wC ad cy q.2) A s H1 locs1 → W p l e R s m args below meth c H1 locs1 0 0 Q (F0 m (pc + 3) ls (.int q.1 :: rest))) : W p l e R s m args below meth c H locs 0 0 Q (F0 m pc ls (.int a3 :: .int a2 :: .int a1 :: .int a0 :: .ref (ad 11) :: rest)) :=
  call_V (q := (RX3, TX3, 6)) (n := 4) (As := [.int a0, .int a1, .int a2, .int a3]) (rv := some (.int q.1)) 11 3 F K E hA Z (c_X3_join (l := l) (D := D) (ad := ad) (cy := cy) (ee := ee) hf) ⟨wd663, wd662, wd664, wd665, wd623⟩ (by decide +kernel) rfl rfl hR rfl hl hst hd kk
theorem kroX3_79_X3_readImplication  {q : (Int32 × StT)} (F : CallFix p m c cc nL s args (cw :: Gw) RX3) (K : va_K D vwCl (tyL cy) s) (E : EV ee A s s.heap) (hA : ∀ q, s.heap.size ≤ q → A q) (Z : ZG D (wC ad cy st) A s H locs) {fr lo : Nat} (hf : CT l yX3_readImplication cX3_readImplication 4 (some .int) fr lo D cy ee (wC ad cy st) (wC ad cy q.2) [.ref (ad 11)] (some (.int q.1))) (hR : fr + 1 ≤ R.frames ∧ 23 + lo ≤ R.locals) (hl : ls.size = nL) (hst : (rest.map fun v => v.category).sum ≤ 8) (hd : decode cc pc = .ok (.invokevirtual 79, 3)) (kk : ∀ (H1 : Heap) (locs1 : List Loc), ZG D (wC ad cy q.2) A s H1 locs1 → W p l e R s m args below meth c H1 locs1 0 0 Q (F0 m (pc + 3) ls (.int q.1 :: rest))) : W p l e R s m args below meth c H locs 0 0 Q (F0 m pc ls (.ref (ad 11) :: rest)) :=
  call_V (q := (RX3, TX3, 6)) (n := 0) (As := []) (rv := some (.int q.1)) 11 3 F K E hA Z (hf) ⟨wd667, wd666, wd668, wd669, wd623⟩ (by decide +kernel) rfl rfl hR rfl hl hst hd kk
theorem krX3_82_X3_opens {n : Nat}  {q : (Int32 × StT)} (F : CallFix p m c cc nL s args (cw :: Gw) RX3) (K : va_K D vwCl (tyL cy) s) (E : EV ee A s s.heap) (hA : ∀ q, s.heap.size ≤ q → A q) (Z : ZG D (wC ad cy st) A s H locs) (hf : f_X3_opens n st = some q) (hR : 2 ≤ R.frames ∧ 42 ≤ R.locals) (hl : ls.size = nL) (hst : (rest.map fun v => v.category).sum ≤ 8) (hd : decode cc pc = .ok (.invokevirtual 82, 3)) (kk : ∀ (H1 : Heap) (locs1 : List Loc), ZG D (wC ad cy q.2) A s H1 locs1 → W p l e R s m args below meth c H1 locs1 0 0 Q (F0 m (pc + 3) ls (.int q.1 :: rest))) : W p l e R s m args below meth c H locs 0 0 Q (F0 m pc ls (.ref (ad 11) :: rest)) :=
  call_V (q := (RX3, TX3, 6)) (n := 0) (As := []) (rv := some (.int q.1)) 11 3 F K E hA Z (c_X3_opens (l := l) (D := D) (ad := ad) (cy := cy) (ee := ee) hf) ⟨wd671, wd670, wd672, wd673, wd623⟩ (by decide +kernel) rfl rfl hR rfl hl hst hd kk
theorem kroX3_90_X3_readOr  {q : (Int32 × StT)} (F : CallFix p m c cc nL s args (cw :: Gw) RX3) (K : va_K D vwCl (tyL cy) s) (E : EV ee A s s.heap) (hA : ∀ q, s.heap.size ≤ q → A q) (Z : ZG D (wC ad cy st) A s H locs) {fr lo : Nat} (hf : CT l yX3_readOr cX3_readOr 4 (some .int) fr lo D cy ee (wC ad cy st) (wC ad cy q.2) [.ref (ad 11)] (some (.int q.1))) (hR : fr + 1 ≤ R.frames ∧ 23 + lo ≤ R.locals) (hl : ls.size = nL) (hst : (rest.map fun v => v.category).sum ≤ 8) (hd : decode cc pc = .ok (.invokevirtual 90, 3)) (kk : ∀ (H1 : Heap) (locs1 : List Loc), ZG D (wC ad cy q.2) A s H1 locs1 → W p l e R s m args below meth c H1 locs1 0 0 Q (F0 m (pc + 3) ls (.int q.1 :: rest))) : W p l e R s m args below meth c H locs 0 0 Q (F0 m pc ls (.ref (ad 11) :: rest)) :=
  call_V (q := (RX3, TX3, 6)) (n := 0) (As := []) (rv := some (.int q.1)) 11 3 F K E hA Z (hf) ⟨wd675, wd674, wd676, wd677, wd623⟩ (by decide +kernel) rfl rfl hR rfl hl hst hd kk
theorem kroX3_93_X3_readAnd  {q : (Int32 × StT)} (F : CallFix p m c cc nL s args (cw :: Gw) RX3) (K : va_K D vwCl (tyL cy) s) (E : EV ee A s s.heap) (hA : ∀ q, s.heap.size ≤ q → A q) (Z : ZG D (wC ad cy st) A s H locs) {fr lo : Nat} (hf : CT l yX3_readAnd cX3_readAnd 4 (some .int) fr lo D cy ee (wC ad cy st) (wC ad cy q.2) [.ref (ad 11)] (some (.int q.1))) (hR : fr + 1 ≤ R.frames ∧ 23 + lo ≤ R.locals) (hl : ls.size = nL) (hst : (rest.map fun v => v.category).sum ≤ 8) (hd : decode cc pc = .ok (.invokevirtual 93, 3)) (kk : ∀ (H1 : Heap) (locs1 : List Loc), ZG D (wC ad cy q.2) A s H1 locs1 → W p l e R s m args below meth c H1 locs1 0 0 Q (F0 m (pc + 3) ls (.int q.1 :: rest))) : W p l e R s m args below meth c H locs 0 0 Q (F0 m pc ls (.ref (ad 11) :: rest)) :=
  call_V (q := (RX3, TX3, 6)) (n := 0) (As := []) (rv := some (.int q.1)) 11 3 F K E hA Z (hf) ⟨wd679, wd678, wd680, wd681, wd623⟩ (by decide +kernel) rfl rfl hR rfl hl hst hd kk
theorem kroX3_96_X3_readNot  {q : (Int32 × StT)} (F : CallFix p m c cc nL s args (cw :: Gw) RX3) (K : va_K D vwCl (tyL cy) s) (E : EV ee A s s.heap) (hA : ∀ q, s.heap.size ≤ q → A q) (Z : ZG D (wC ad cy st) A s H locs) {fr lo : Nat} (hf : CT l yX3_readNot cX3_readNot 4 (some .int) fr lo D cy ee (wC ad cy st) (wC ad cy q.2) [.ref (ad 11)] (some (.int q.1))) (hR : fr + 1 ≤ R.frames ∧ 23 + lo ≤ R.locals) (hl : ls.size = nL) (hst : (rest.map fun v => v.category).sum ≤ 8) (hd : decode cc pc = .ok (.invokevirtual 96, 3)) (kk : ∀ (H1 : Heap) (locs1 : List Loc), ZG D (wC ad cy q.2) A s H1 locs1 → W p l e R s m args below meth c H1 locs1 0 0 Q (F0 m (pc + 3) ls (.int q.1 :: rest))) : W p l e R s m args below meth c H locs 0 0 Q (F0 m pc ls (.ref (ad 11) :: rest)) :=
  call_V (q := (RX3, TX3, 6)) (n := 0) (As := []) (rv := some (.int q.1)) 11 3 F K E hA Z (hf) ⟨wd683, wd682, wd684, wd685, wd623⟩ (by decide +kernel) rfl rfl hR rfl hl hst hd kk
theorem krX3_99_X3_readLeaf {n : Nat} {a0 : Int32} {q : (Int32 × StT)} (F : CallFix p m c cc nL s args (cw :: Gw) RX3) (K : va_K D vwCl (tyL cy) s) (E : EV ee A s s.heap) (hA : ∀ q, s.heap.size ≤ q → A q) (Z : ZG D (wC ad cy st) A s H locs) (hf : f_X3_readLeaf n st a0 = some q) (hR : 5 ≤ R.frames ∧ 114 ≤ R.locals) (hl : ls.size = nL) (hst : (rest.map fun v => v.category).sum ≤ 8) (hd : decode cc pc = .ok (.invokevirtual 99, 3)) (kk : ∀ (H1 : Heap) (locs1 : List Loc), ZG D (wC ad cy q.2) A s H1 locs1 → W p l e R s m args below meth c H1 locs1 0 0 Q (F0 m (pc + 3) ls (.int q.1 :: rest))) : W p l e R s m args below meth c H locs 0 0 Q (F0 m pc ls (.int a0 :: .ref (ad 11) :: rest)) :=
  call_V (q := (RX3, TX3, 6)) (n := 1) (As := [.int a0]) (rv := some (.int q.1)) 11 3 F K E hA Z (c_X3_readLeaf (l := l) (D := D) (ad := ad) (cy := cy) (ee := ee) hf) ⟨wd687, wd686, wd688, wd689, wd623⟩ (by decide +kernel) rfl rfl hR rfl hl hst hd kk
theorem krX3_42_X3_expect {n : Nat} {a0 : Int32} {q : StT} (F : CallFix p m c cc nL s args (cw :: Gw) RX3) (K : va_K D vwCl (tyL cy) s) (E : EV ee A s s.heap) (hA : ∀ q, s.heap.size ≤ q → A q) (Z : ZG D (wC ad cy st) A s H locs) (hf : f_X3_expect n st a0 = some q) (hR : 8 ≤ R.frames ∧ 175 ≤ R.locals) (hl : ls.size = nL) (hst : (rest.map fun v => v.category).sum ≤ 8) (hd : decode cc pc = .ok (.invokevirtual 42, 3)) (kk : ∀ (H1 : Heap) (locs1 : List Loc), ZG D (wC ad cy q) A s H1 locs1 → W p l e R s m args below meth c H1 locs1 0 0 Q (F0 m (pc + 3) ls (rest))) : W p l e R s m args below meth c H locs 0 0 Q (F0 m pc ls (.int a0 :: .ref (ad 11) :: rest)) :=
  call_V (q := (RX3, TX3, 6)) (n := 1) (As := [.int a0]) (rv := none) 11 3 F K E hA Z (c_X3_expect (l := l) (D := D) (ad := ad) (cy := cy) (ee := ee) hf) ⟨wd691, wd690, wd692, wd693, wd623⟩ (by decide +kernel) rfl rfl hR rfl hl hst hd kk
theorem kroX3_36_X3_readBothWays  {q : (Int32 × StT)} (F : CallFix p m c cc nL s args (cw :: Gw) RX3) (K : va_K D vwCl (tyL cy) s) (E : EV ee A s s.heap) (hA : ∀ q, s.heap.size ≤ q → A q) (Z : ZG D (wC ad cy st) A s H locs) {fr lo : Nat} (hf : CT l yX3_readBothWays cX3_readBothWays 6 (some .int) fr lo D cy ee (wC ad cy st) (wC ad cy q.2) [.ref (ad 11)] (some (.int q.1))) (hR : fr + 1 ≤ R.frames ∧ 25 + lo ≤ R.locals) (hl : ls.size = nL) (hst : (rest.map fun v => v.category).sum ≤ 8) (hd : decode cc pc = .ok (.invokevirtual 36, 3)) (kk : ∀ (H1 : Heap) (locs1 : List Loc), ZG D (wC ad cy q.2) A s H1 locs1 → W p l e R s m args below meth c H1 locs1 0 0 Q (F0 m (pc + 3) ls (.int q.1 :: rest))) : W p l e R s m args below meth c H locs 0 0 Q (F0 m pc ls (.ref (ad 11) :: rest)) :=
  call_V (q := (RX3, TX3, 6)) (n := 0) (As := []) (rv := some (.int q.1)) 11 3 F K E hA Z (hf) ⟨wd695, wd694, wd696, wd697, wd623⟩ (by decide +kernel) rfl rfl hR rfl hl hst hd kk
end
set_option maxRecDepth 100000 in
set_option maxHeartbeats 4000000 in
theorem o_X3_readBothWays {l : Launch} {D : va_G} {ad : Nat → Nat} {cy : Nat → ClassId} {ee : EE} {n : Nat} {frr lor : Nat} (hfr : 8 ≤ frr) (hlo : 175 ≤ lor) {r_X3_readBothWays : StT → Option (Int32 × StT)} (hr_X3_readBothWays : ∀ (st : StT) (res : (Int32 × StT)), r_X3_readBothWays st = some res → CT l yX3_readBothWays cX3_readBothWays 6 (some .int) frr lor D cy ee (wC ad cy st) (wC ad cy res.2) [.ref (ad 11)] (some (.int res.1))) {r_X3_readImplication : StT → Option (Int32 × StT)} (hr_X3_readImplication : ∀ (st : StT) (res : (Int32 × StT)), r_X3_readImplication st = some res → CT l yX3_readImplication cX3_readImplication 4 (some .int) frr lor D cy ee (wC ad cy st) (wC ad cy res.2) [.ref (ad 11)] (some (.int res.1))) {r_X3_readOr : StT → Option (Int32 × StT)} (hr_X3_readOr : ∀ (st : StT) (res : (Int32 × StT)), r_X3_readOr st = some res → CT l yX3_readOr cX3_readOr 4 (some .int) frr lor D cy ee (wC ad cy st) (wC ad cy res.2) [.ref (ad 11)] (some (.int res.1))) {r_X3_readAnd : StT → Option (Int32 × StT)} (hr_X3_readAnd : ∀ (st : StT) (res : (Int32 × StT)), r_X3_readAnd st = some res → CT l yX3_readAnd cX3_readAnd 4 (some .int) frr lor D cy ee (wC ad cy st) (wC ad cy res.2) [.ref (ad 11)] (some (.int res.1))) {r_X3_readNot : StT → Option (Int32 × StT)} (hr_X3_readNot : ∀ (st : StT) (res : (Int32 × StT)), r_X3_readNot st = some res → CT l yX3_readNot cX3_readNot 4 (some .int) frr lor D cy ee (wC ad cy st) (wC ad cy res.2) [.ref (ad 11)] (some (.int res.1))) {st : StT} {res : (Int32 × StT)} (hf : g_X3_readBothWays n r_X3_readBothWays r_X3_readImplication r_X3_readOr r_X3_readAnd r_X3_readNot st = some res) : CT l yX3_readBothWays cX3_readBothWays 6 (some .int) (frr + 1) (lor + 25) D cy ee (wC ad cy st) (wC ad cy res.2) [.ref (ad 11)] (some (.int res.1)) := by
  refine CT.of (by decide +kernel) (Nat.le_of_ble_eq_true rfl) ?_
  intro p e s m args below meth c A F hr hk K E hA Z ls hl
  have hl : lv_has ls 6 [(0, .ref (ad 11))] := hl
  have hx := F.1
  have hb := F.2.1
  unfold g_X3_readBothWays at hf
  refine lv_aload_n hx hb dX3_readBothWays_0 rfl (lv_at hl 0 rfl) ?_
  obtain ⟨q1, h1, hf⟩ := bind_some hf
  refine kroX3_79_X3_readImplication F K E hA Z (hr_X3_readImplication _ _ h1) ⟨by show frr + 1 ≤ frr + 1; omega, by show 23 + lor ≤ lor + 25; omega⟩ hl.1 (Nat.le_of_ble_eq_true rfl) dX3_readBothWays_1 (fun H locs Z => ?_)
  refine lv_istore_n (lv' := [(1, .int q1.1), (0, .ref (ad 11))]) hx hb dX3_readBothWays_4 rfl hl (by decide) rfl (fun ls hl => ?_)
  refine lv_aload_n hx hb dX3_readBothWays_5 rfl (lv_at hl 1 rfl) ?_
  obtain ⟨q6, h6, hf⟩ := bind_some hf
  refine krX3_69_X3_look F K E hA Z h6 ⟨by show 7 ≤ frr + 1; omega, by show 154 ≤ lor + 25; omega⟩ hl.1 (Nat.le_of_ble_eq_true rfl) dX3_readBothWays_6 (fun H locs Z => ?_)
  refine lv_bipush (v := 61) hx hb dX3_readBothWays_9 (by decide) ?_
  refine lv_icmp_eq (tgt := 16) hx hb dX3_readBothWays_11 (by decide) (fun c11 => ?_) (fun c11 => ?_)
  · have hf := if_t c11 hf
    refine lv_aload_n hx hb dX3_readBothWays_16 rfl (lv_at hl 1 rfl) ?_
    refine grX3_24_11 F K Z dX3_readBothWays_17 ?_
    obtain ⟨q20, h20, hf⟩ := bind_some hf
    refine krX3_62_X8_start F K E hA Z h20 ⟨by show 1 ≤ frr + 1; omega, by show 20 ≤ lor + 25; omega⟩ hl.1 (Nat.le_of_ble_eq_true rfl) dX3_readBothWays_20 (fun H locs Z => ?_)
    refine lv_istore_n (lv' := [(2, .int q20.1), (1, .int q1.1), (0, .ref (ad 11))]) hx hb dX3_readBothWays_23 rfl hl (by decide) rfl (fun ls hl => ?_)
    refine lv_aload_n hx hb dX3_readBothWays_24 rfl (lv_at hl 2 rfl) ?_
    obtain ⟨q25, h25, hf⟩ := bind_some hf
    refine krX3_82_X3_opens F K E hA Z h25 ⟨by show 2 ≤ frr + 1; omega, by show 42 ≤ lor + 25; omega⟩ hl.1 (Nat.le_of_ble_eq_true rfl) dX3_readBothWays_25 (fun H locs Z => ?_)
    refine lv_if_ne (tgt := 33) hx hb dX3_readBothWays_28 (by decide) (fun c28 => ?_) (fun c28 => ?_)
    · have hf := if_f c28 hf
      refine lv_aload_n hx hb dX3_readBothWays_33 rfl (lv_at hl 2 rfl) ?_
      obtain ⟨q34, h34, hf⟩ := bind_some hf
      refine kroX3_79_X3_readImplication F K E hA Z (hr_X3_readImplication _ _ h34) ⟨by show frr + 1 ≤ frr + 1; omega, by show 23 + lor ≤ lor + 25; omega⟩ hl.1 (Nat.le_of_ble_eq_true rfl) dX3_readBothWays_34 (fun H locs Z => ?_)
      refine lv_istore_n (lv' := [(3, .int q34.1), (2, .int q20.1), (1, .int q1.1), (0, .ref (ad 11))]) hx hb dX3_readBothWays_37 rfl hl (by decide) rfl (fun ls hl => ?_)
      refine lv_aload_n hx hb dX3_readBothWays_38 rfl (lv_at hl 3 rfl) ?_
      refine lv_dup hx hb dX3_readBothWays_39 rfl ?_
      refine grX3_53_11 F K Z dX3_readBothWays_40 ?_
      refine lv_iconst (v := 1) hx hb dX3_readBothWays_43 (by decide) ?_
      refine lv_isub hx hb dX3_readBothWays_44 ?_
      refine prX3_53_11 F K Z dX3_readBothWays_45 (fun H locs Z => ?_)
      refine lv_aload_n hx hb dX3_readBothWays_48 rfl (lv_at hl 3 rfl) ?_
      refine lv_iconst (v := 5) hx hb dX3_readBothWays_49 (by decide) ?_
      refine lv_iload_n hx hb dX3_readBothWays_50 rfl (lv_at hl 2 rfl) ?_
      refine lv_iload_n hx hb dX3_readBothWays_51 rfl (lv_at hl 0 rfl) ?_
      refine lv_iload_n hx hb dX3_readBothWays_52 rfl (lv_at hl 1 rfl) ?_
      obtain ⟨q53, h53, hf⟩ := bind_some hf
      refine krX3_86_X3_join F K E hA Z h53 ⟨by show 3 ≤ frr + 1; omega, by show 76 ≤ lor + 25; omega⟩ hl.1 (Nat.le_of_ble_eq_true rfl) dX3_readBothWays_53 (fun H locs Z => ?_)
      refine lv_istore (lv' := [(4, .int q53.1), (3, .int q34.1), (2, .int q20.1), (1, .int q1.1), (0, .ref (ad 11))]) hx hb dX3_readBothWays_56 hl (by decide) rfl (fun ls hl => ?_)
      refine lv_aload_n hx hb dX3_readBothWays_58 rfl (lv_at hl 4 rfl) ?_
      refine lv_iconst (v := 5) hx hb dX3_readBothWays_59 (by decide) ?_
      refine lv_iload_n hx hb dX3_readBothWays_60 rfl (lv_at hl 1 rfl) ?_
      refine lv_iload_n hx hb dX3_readBothWays_61 rfl (lv_at hl 3 rfl) ?_
      refine lv_iload_n hx hb dX3_readBothWays_62 rfl (lv_at hl 2 rfl) ?_
      obtain ⟨q63, h63, hf⟩ := bind_some hf
      refine krX3_86_X3_join F K E hA Z h63 ⟨by show 3 ≤ frr + 1; omega, by show 76 ≤ lor + 25; omega⟩ hl.1 (Nat.le_of_ble_eq_true rfl) dX3_readBothWays_63 (fun H locs Z => ?_)
      refine lv_istore (lv' := [(5, .int q63.1), (4, .int q53.1), (3, .int q34.1), (2, .int q20.1), (1, .int q1.1), (0, .ref (ad 11))]) hx hb dX3_readBothWays_66 hl (by decide) rfl (fun ls hl => ?_)
      refine lv_aload_n hx hb dX3_readBothWays_68 rfl (lv_at hl 5 rfl) ?_
      refine lv_iconst (v := 3) hx hb dX3_readBothWays_69 (by decide) ?_
      refine lv_iload hx hb dX3_readBothWays_70 (lv_at hl 1 rfl) ?_
      refine lv_iload hx hb dX3_readBothWays_72 (lv_at hl 0 rfl) ?_
      refine lv_iload_n hx hb dX3_readBothWays_74 rfl (lv_at hl 3 rfl) ?_
      obtain ⟨q75, h75, hf⟩ := bind_some hf
      refine krX3_86_X3_join F K E hA Z h75 ⟨by show 3 ≤ frr + 1; omega, by show 76 ≤ lor + 25; omega⟩ hl.1 (Nat.le_of_ble_eq_true rfl) dX3_readBothWays_75 (fun H locs Z => ?_)
      have hf := Option.some.inj hf
      subst hf
      exact ret_i F hr hk Z dX3_readBothWays_78
    have hf := if_t c28 hf
    refine lv_iconst (v := -1) hx hb dX3_readBothWays_31 (by decide) ?_
    have hf := Option.some.inj hf
    subst hf
    exact ret_i F hr hk Z dX3_readBothWays_32
  have hf := if_f c11 hf
  refine lv_iload_n hx hb dX3_readBothWays_14 rfl (lv_at hl 0 rfl) ?_
  have hf := Option.some.inj hf
  subst hf
  exact ret_i F hr hk Z dX3_readBothWays_15
set_option maxRecDepth 100000 in
set_option maxHeartbeats 4000000 in
theorem o_X3_readImplication {l : Launch} {D : va_G} {ad : Nat → Nat} {cy : Nat → ClassId} {ee : EE} {n : Nat} {frr lor : Nat} (hfr : 8 ≤ frr) (hlo : 175 ≤ lor) {r_X3_readBothWays : StT → Option (Int32 × StT)} (hr_X3_readBothWays : ∀ (st : StT) (res : (Int32 × StT)), r_X3_readBothWays st = some res → CT l yX3_readBothWays cX3_readBothWays 6 (some .int) frr lor D cy ee (wC ad cy st) (wC ad cy res.2) [.ref (ad 11)] (some (.int res.1))) {r_X3_readImplication : StT → Option (Int32 × StT)} (hr_X3_readImplication : ∀ (st : StT) (res : (Int32 × StT)), r_X3_readImplication st = some res → CT l yX3_readImplication cX3_readImplication 4 (some .int) frr lor D cy ee (wC ad cy st) (wC ad cy res.2) [.ref (ad 11)] (some (.int res.1))) {r_X3_readOr : StT → Option (Int32 × StT)} (hr_X3_readOr : ∀ (st : StT) (res : (Int32 × StT)), r_X3_readOr st = some res → CT l yX3_readOr cX3_readOr 4 (some .int) frr lor D cy ee (wC ad cy st) (wC ad cy res.2) [.ref (ad 11)] (some (.int res.1))) {r_X3_readAnd : StT → Option (Int32 × StT)} (hr_X3_readAnd : ∀ (st : StT) (res : (Int32 × StT)), r_X3_readAnd st = some res → CT l yX3_readAnd cX3_readAnd 4 (some .int) frr lor D cy ee (wC ad cy st) (wC ad cy res.2) [.ref (ad 11)] (some (.int res.1))) {r_X3_readNot : StT → Option (Int32 × StT)} (hr_X3_readNot : ∀ (st : StT) (res : (Int32 × StT)), r_X3_readNot st = some res → CT l yX3_readNot cX3_readNot 4 (some .int) frr lor D cy ee (wC ad cy st) (wC ad cy res.2) [.ref (ad 11)] (some (.int res.1))) {st : StT} {res : (Int32 × StT)} (hf : g_X3_readImplication n r_X3_readBothWays r_X3_readImplication r_X3_readOr r_X3_readAnd r_X3_readNot st = some res) : CT l yX3_readImplication cX3_readImplication 4 (some .int) (frr + 1) (lor + 25) D cy ee (wC ad cy st) (wC ad cy res.2) [.ref (ad 11)] (some (.int res.1)) := by
  refine CT.of (by decide +kernel) (Nat.le_of_ble_eq_true rfl) ?_
  intro p e s m args below meth c A F hr hk K E hA Z ls hl
  have hl : lv_has ls 4 [(0, .ref (ad 11))] := hl
  have hx := F.1
  have hb := F.2.1
  unfold g_X3_readImplication at hf
  refine lv_aload_n hx hb dX3_readImplication_0 rfl (lv_at hl 0 rfl) ?_
  obtain ⟨q1, h1, hf⟩ := bind_some hf
  refine kroX3_90_X3_readOr F K E hA Z (hr_X3_readOr _ _ h1) ⟨by show frr + 1 ≤ frr + 1; omega, by show 23 + lor ≤ lor + 25; omega⟩ hl.1 (Nat.le_of_ble_eq_true rfl) dX3_readImplication_1 (fun H locs Z => ?_)
  refine lv_istore_n (lv' := [(1, .int q1.1), (0, .ref (ad 11))]) hx hb dX3_readImplication_4 rfl hl (by decide) rfl (fun ls hl => ?_)
  refine lv_aload_n hx hb dX3_readImplication_5 rfl (lv_at hl 1 rfl) ?_
  obtain ⟨q6, h6, hf⟩ := bind_some hf
  refine krX3_69_X3_look F K E hA Z h6 ⟨by show 7 ≤ frr + 1; omega, by show 154 ≤ lor + 25; omega⟩ hl.1 (Nat.le_of_ble_eq_true rfl) dX3_readImplication_6 (fun H locs Z => ?_)
  refine lv_bipush (v := 62) hx hb dX3_readImplication_9 (by decide) ?_
  refine lv_icmp_eq (tgt := 16) hx hb dX3_readImplication_11 (by decide) (fun c11 => ?_) (fun c11 => ?_)
  · have hf := if_t c11 hf
    refine lv_aload_n hx hb dX3_readImplication_16 rfl (lv_at hl 1 rfl) ?_
    refine grX3_24_11 F K Z dX3_readImplication_17 ?_
    obtain ⟨q20, h20, hf⟩ := bind_some hf
    refine krX3_62_X8_start F K E hA Z h20 ⟨by show 1 ≤ frr + 1; omega, by show 20 ≤ lor + 25; omega⟩ hl.1 (Nat.le_of_ble_eq_true rfl) dX3_readImplication_20 (fun H locs Z => ?_)
    refine lv_istore_n (lv' := [(2, .int q20.1), (1, .int q1.1), (0, .ref (ad 11))]) hx hb dX3_readImplication_23 rfl hl (by decide) rfl (fun ls hl => ?_)
    refine lv_aload_n hx hb dX3_readImplication_24 rfl (lv_at hl 2 rfl) ?_
    obtain ⟨q25, h25, hf⟩ := bind_some hf
    refine krX3_82_X3_opens F K E hA Z h25 ⟨by show 2 ≤ frr + 1; omega, by show 42 ≤ lor + 25; omega⟩ hl.1 (Nat.le_of_ble_eq_true rfl) dX3_readImplication_25 (fun H locs Z => ?_)
    refine lv_if_ne (tgt := 33) hx hb dX3_readImplication_28 (by decide) (fun c28 => ?_) (fun c28 => ?_)
    · have hf := if_f c28 hf
      refine lv_aload_n hx hb dX3_readImplication_33 rfl (lv_at hl 2 rfl) ?_
      obtain ⟨q34, h34, hf⟩ := bind_some hf
      refine kroX3_79_X3_readImplication F K E hA Z (hr_X3_readImplication _ _ h34) ⟨by show frr + 1 ≤ frr + 1; omega, by show 23 + lor ≤ lor + 25; omega⟩ hl.1 (Nat.le_of_ble_eq_true rfl) dX3_readImplication_34 (fun H locs Z => ?_)
      refine lv_istore_n (lv' := [(3, .int q34.1), (2, .int q20.1), (1, .int q1.1), (0, .ref (ad 11))]) hx hb dX3_readImplication_37 rfl hl (by decide) rfl (fun ls hl => ?_)
      refine lv_aload_n hx hb dX3_readImplication_38 rfl (lv_at hl 3 rfl) ?_
      refine lv_dup hx hb dX3_readImplication_39 rfl ?_
      refine grX3_53_11 F K Z dX3_readImplication_40 ?_
      refine lv_iconst (v := 1) hx hb dX3_readImplication_43 (by decide) ?_
      refine lv_isub hx hb dX3_readImplication_44 ?_
      refine prX3_53_11 F K Z dX3_readImplication_45 (fun H locs Z => ?_)
      refine lv_aload_n hx hb dX3_readImplication_48 rfl (lv_at hl 3 rfl) ?_
      refine lv_iconst (v := 5) hx hb dX3_readImplication_49 (by decide) ?_
      refine lv_iload_n hx hb dX3_readImplication_50 rfl (lv_at hl 2 rfl) ?_
      refine lv_iload_n hx hb dX3_readImplication_51 rfl (lv_at hl 0 rfl) ?_
      refine lv_iload_n hx hb dX3_readImplication_52 rfl (lv_at hl 1 rfl) ?_
      obtain ⟨q53, h53, hf⟩ := bind_some hf
      refine krX3_86_X3_join F K E hA Z h53 ⟨by show 3 ≤ frr + 1; omega, by show 76 ≤ lor + 25; omega⟩ hl.1 (Nat.le_of_ble_eq_true rfl) dX3_readImplication_53 (fun H locs Z => ?_)
      have hf := Option.some.inj hf
      subst hf
      exact ret_i F hr hk Z dX3_readImplication_56
    have hf := if_t c28 hf
    refine lv_iconst (v := -1) hx hb dX3_readImplication_31 (by decide) ?_
    have hf := Option.some.inj hf
    subst hf
    exact ret_i F hr hk Z dX3_readImplication_32
  have hf := if_f c11 hf
  refine lv_iload_n hx hb dX3_readImplication_14 rfl (lv_at hl 0 rfl) ?_
  have hf := Option.some.inj hf
  subst hf
  exact ret_i F hr hk Z dX3_readImplication_15
set_option maxRecDepth 100000 in
set_option maxHeartbeats 4000000 in
theorem b_X3_readOr_7 {p : Program} {l : Launch} {e : Env} {s : State} {m : MethodId} {args : Array Value} {below : List Frame} {meth : Method} {c : Code} {D : va_G} {A : Nat → Prop} {ad : Nat → Nat} {cy : Nat → ClassId} {ee : EE} {n : Nat} {res : (Int32 × StT)} (F : CallFix p m c cX3_readOr 4 s args (Cond.code yX3_readOr cX3_readOr 4 (some .int) :: Gw) yX3_readOr.cls) (hr : meth.sig.returnType = (some .int)) (hk : meth.locks = false) (K : va_K D vwCl (tyL cy) s) (E : EV ee A s s.heap) (hA : ∀ q, s.heap.size ≤ q → A q) {frr lor : Nat} (hfr : 8 ≤ frr) (hlo : 175 ≤ lor) {r_X3_readBothWays : StT → Option (Int32 × StT)} (hr_X3_readBothWays : ∀ (st : StT) (res : (Int32 × StT)), r_X3_readBothWays st = some res → CT l yX3_readBothWays cX3_readBothWays 6 (some .int) frr lor D cy ee (wC ad cy st) (wC ad cy res.2) [.ref (ad 11)] (some (.int res.1))) {r_X3_readImplication : StT → Option (Int32 × StT)} (hr_X3_readImplication : ∀ (st : StT) (res : (Int32 × StT)), r_X3_readImplication st = some res → CT l yX3_readImplication cX3_readImplication 4 (some .int) frr lor D cy ee (wC ad cy st) (wC ad cy res.2) [.ref (ad 11)] (some (.int res.1))) {r_X3_readOr : StT → Option (Int32 × StT)} (hr_X3_readOr : ∀ (st : StT) (res : (Int32 × StT)), r_X3_readOr st = some res → CT l yX3_readOr cX3_readOr 4 (some .int) frr lor D cy ee (wC ad cy st) (wC ad cy res.2) [.ref (ad 11)] (some (.int res.1))) {r_X3_readAnd : StT → Option (Int32 × StT)} (hr_X3_readAnd : ∀ (st : StT) (res : (Int32 × StT)), r_X3_readAnd st = some res → CT l yX3_readAnd cX3_readAnd 4 (some .int) frr lor D cy ee (wC ad cy st) (wC ad cy res.2) [.ref (ad 11)] (some (.int res.1))) {r_X3_readNot : StT → Option (Int32 × StT)} (hr_X3_readNot : ∀ (st : StT) (res : (Int32 × StT)), r_X3_readNot st = some res → CT l yX3_readNot cX3_readNot 4 (some .int) frr lor D cy ee (wC ad cy st) (wC ad cy res.2) [.ref (ad 11)] (some (.int res.1))) : ∀ (k : Nat) (st : StT) (x1 : Int32) (x2 : Int32), f_X3_readOr_7 n r_X3_readBothWays r_X3_readImplication r_X3_readOr r_X3_readAnd r_X3_readNot k st x1 x2 = some res → ∀ (H : Heap) (locs : List Loc) (ls : Array Slot), ZG D (wC ad cy st) A s H locs → lv_has ls 4 [(0, .ref (ad 11)), (1, .int x1), (2, .int x2)] → W p l e { frames := frr + 1, cells := 0, slots := 0, locals := lor + 25 } s m args below meth c H locs 0 0 (MQ below (QC D (some (.int res.1)) (wC ad cy res.2) A) args s 0 0 A) (F0 m 7 ls []) := by
  have hx := F.1
  have hb := F.2.1
  intro k
  induction k with
  | zero =>
    intro st x1 x2 hf
    exact absurd hf (by simp [f_X3_readOr_7])
  | succ k ih =>
    intro st x1 x2 hf H locs ls Z hl
    rw [f_X3_readOr_7] at hf
    refine lv_iload_n hx hb dX3_readOr_7 rfl (lv_at hl 2 rfl) ?_
    refine lv_sipush (v := 3000) hx hb dX3_readOr_8 (by decide) ?_
    refine lv_icmp_ge (tgt := 56) hx hb dX3_readOr_11 (by decide) (fun c11 => ?_) (fun c11 => ?_)
    · have hf := if_t c11 hf
      refine lv_iload_n hx hb dX3_readOr_56 rfl (lv_at hl 1 rfl) ?_
      have hf := Option.some.inj hf
      subst hf
      exact ret_i F hr hk Z dX3_readOr_57
    have hf := if_f c11 hf
    refine lv_aload_n hx hb dX3_readOr_14 rfl (lv_at hl 0 rfl) ?_
    obtain ⟨q15, h15, hf⟩ := bind_some hf
    refine krX3_69_X3_look F K E hA Z h15 ⟨by show 7 ≤ frr + 1; omega, by show 154 ≤ lor + 25; omega⟩ hl.1 (Nat.le_of_ble_eq_true rfl) dX3_readOr_15 (fun H locs Z => ?_)
    refine lv_bipush (v := 124) hx hb dX3_readOr_18 (by decide) ?_
    refine lv_icmp_ne (tgt := 56) hx hb dX3_readOr_20 (by decide) (fun c20 => ?_) (fun c20 => ?_)
    · have hf := if_f c20 hf
      refine lv_iload_n hx hb dX3_readOr_56 rfl (lv_at hl 1 rfl) ?_
      have hf := Option.some.inj hf
      subst hf
      exact ret_i F hr hk Z dX3_readOr_57
    have hf := if_t c20 hf
    refine lv_aload_n hx hb dX3_readOr_23 rfl (lv_at hl 0 rfl) ?_
    refine grX3_24_11 F K Z dX3_readOr_24 ?_
    obtain ⟨q27, h27, hf⟩ := bind_some hf
    refine krX3_62_X8_start F K E hA Z h27 ⟨by show 1 ≤ frr + 1; omega, by show 20 ≤ lor + 25; omega⟩ hl.1 (Nat.le_of_ble_eq_true rfl) dX3_readOr_27 (fun H locs Z => ?_)
    refine lv_istore_n (lv' := [(3, .int q27.1), (0, .ref (ad 11)), (1, .int x1), (2, .int x2)]) hx hb dX3_readOr_30 rfl hl (by decide) rfl (fun ls hl => ?_)
    refine lv_aload_n hx hb dX3_readOr_31 rfl (lv_at hl 1 rfl) ?_
    refine grX3_24_11 F K Z dX3_readOr_32 ?_
    obtain ⟨q35, h35, hf⟩ := bind_some hf
    refine krX3_70_X8_take F K E hA Z h35 ⟨by show 1 ≤ frr + 1; omega, by show 20 ≤ lor + 25; omega⟩ hl.1 (Nat.le_of_ble_eq_true rfl) dX3_readOr_35 (fun H locs Z => ?_)
    refine lv_aload_n hx hb dX3_readOr_38 rfl (lv_at hl 1 rfl) ?_
    refine lv_iconst (v := 4) hx hb dX3_readOr_39 (by decide) ?_
    refine lv_iload_n hx hb dX3_readOr_40 rfl (lv_at hl 2 rfl) ?_
    refine lv_aload_n hx hb dX3_readOr_41 rfl (lv_at hl 1 rfl) ?_
    obtain ⟨q42, h42, hf⟩ := bind_some hf
    refine kroX3_93_X3_readAnd F K E hA Z (hr_X3_readAnd _ _ h42) ⟨by show frr + 1 ≤ frr + 1; omega, by show 23 + lor ≤ lor + 25; omega⟩ hl.1 (Nat.le_of_ble_eq_true rfl) dX3_readOr_42 (fun H locs Z => ?_)
    refine lv_iload_n hx hb dX3_readOr_45 rfl (lv_at hl 0 rfl) ?_
    obtain ⟨q46, h46, hf⟩ := bind_some hf
    refine krX3_86_X3_join F K E hA Z h46 ⟨by show 3 ≤ frr + 1; omega, by show 76 ≤ lor + 25; omega⟩ hl.1 (Nat.le_of_ble_eq_true rfl) dX3_readOr_46 (fun H locs Z => ?_)
    refine lv_istore_n (lv' := [(1, .int q46.1), (3, .int q27.1), (0, .ref (ad 11)), (2, .int x2)]) hx hb dX3_readOr_49 rfl hl (by decide) rfl (fun ls hl => ?_)
    refine lv_iinc (v := (x2 + (1 : Int32))) (lv' := [(2, .int (x2 + (1 : Int32))), (1, .int q46.1), (3, .int q27.1), (0, .ref (ad 11))]) hx hb dX3_readOr_50 hl (k := 3) rfl (congrArg (fun z => x2 + z) (by decide)) (by decide) rfl (fun ls hl => ?_)
    refine lv_goto (tgt := 7) hx hb dX3_readOr_53 (by decide) ?_
    exact ih _ _ _ hf _ _ _ Z (lv_sub hl [3, 1, 0] rfl)
set_option maxRecDepth 100000 in
set_option maxHeartbeats 4000000 in
theorem o_X3_readOr {l : Launch} {D : va_G} {ad : Nat → Nat} {cy : Nat → ClassId} {ee : EE} {n : Nat} {frr lor : Nat} (hfr : 8 ≤ frr) (hlo : 175 ≤ lor) {r_X3_readBothWays : StT → Option (Int32 × StT)} (hr_X3_readBothWays : ∀ (st : StT) (res : (Int32 × StT)), r_X3_readBothWays st = some res → CT l yX3_readBothWays cX3_readBothWays 6 (some .int) frr lor D cy ee (wC ad cy st) (wC ad cy res.2) [.ref (ad 11)] (some (.int res.1))) {r_X3_readImplication : StT → Option (Int32 × StT)} (hr_X3_readImplication : ∀ (st : StT) (res : (Int32 × StT)), r_X3_readImplication st = some res → CT l yX3_readImplication cX3_readImplication 4 (some .int) frr lor D cy ee (wC ad cy st) (wC ad cy res.2) [.ref (ad 11)] (some (.int res.1))) {r_X3_readOr : StT → Option (Int32 × StT)} (hr_X3_readOr : ∀ (st : StT) (res : (Int32 × StT)), r_X3_readOr st = some res → CT l yX3_readOr cX3_readOr 4 (some .int) frr lor D cy ee (wC ad cy st) (wC ad cy res.2) [.ref (ad 11)] (some (.int res.1))) {r_X3_readAnd : StT → Option (Int32 × StT)} (hr_X3_readAnd : ∀ (st : StT) (res : (Int32 × StT)), r_X3_readAnd st = some res → CT l yX3_readAnd cX3_readAnd 4 (some .int) frr lor D cy ee (wC ad cy st) (wC ad cy res.2) [.ref (ad 11)] (some (.int res.1))) {r_X3_readNot : StT → Option (Int32 × StT)} (hr_X3_readNot : ∀ (st : StT) (res : (Int32 × StT)), r_X3_readNot st = some res → CT l yX3_readNot cX3_readNot 4 (some .int) frr lor D cy ee (wC ad cy st) (wC ad cy res.2) [.ref (ad 11)] (some (.int res.1))) {st : StT} {res : (Int32 × StT)} (hf : g_X3_readOr n r_X3_readBothWays r_X3_readImplication r_X3_readOr r_X3_readAnd r_X3_readNot st = some res) : CT l yX3_readOr cX3_readOr 4 (some .int) (frr + 1) (lor + 25) D cy ee (wC ad cy st) (wC ad cy res.2) [.ref (ad 11)] (some (.int res.1)) := by
  refine CT.of (by decide +kernel) (Nat.le_of_ble_eq_true rfl) ?_
  intro p e s m args below meth c A F hr hk K E hA Z ls hl
  have hl : lv_has ls 4 [(0, .ref (ad 11))] := hl
  have hx := F.1
  have hb := F.2.1
  unfold g_X3_readOr at hf
  refine lv_aload_n hx hb dX3_readOr_0 rfl (lv_at hl 0 rfl) ?_
  obtain ⟨q1, h1, hf⟩ := bind_some hf
  refine kroX3_93_X3_readAnd F K E hA Z (hr_X3_readAnd _ _ h1) ⟨by show frr + 1 ≤ frr + 1; omega, by show 23 + lor ≤ lor + 25; omega⟩ hl.1 (Nat.le_of_ble_eq_true rfl) dX3_readOr_1 (fun H locs Z => ?_)
  refine lv_istore_n (lv' := [(1, .int q1.1), (0, .ref (ad 11))]) hx hb dX3_readOr_4 rfl hl (by decide) rfl (fun ls hl => ?_)
  refine lv_iconst (v := 0) hx hb dX3_readOr_5 (by decide) ?_
  refine lv_istore_n (lv' := [(2, .int (0 : Int32)), (1, .int q1.1), (0, .ref (ad 11))]) hx hb dX3_readOr_6 rfl hl (by decide) rfl (fun ls hl => ?_)
  exact b_X3_readOr_7 F hr hk K E hA hfr hlo hr_X3_readBothWays hr_X3_readImplication hr_X3_readOr hr_X3_readAnd hr_X3_readNot _ _ _ _ hf _ _ _ Z (lv_sub hl [2, 1, 0] rfl)
set_option maxRecDepth 100000 in
set_option maxHeartbeats 4000000 in
theorem b_X3_readAnd_7 {p : Program} {l : Launch} {e : Env} {s : State} {m : MethodId} {args : Array Value} {below : List Frame} {meth : Method} {c : Code} {D : va_G} {A : Nat → Prop} {ad : Nat → Nat} {cy : Nat → ClassId} {ee : EE} {n : Nat} {res : (Int32 × StT)} (F : CallFix p m c cX3_readAnd 4 s args (Cond.code yX3_readAnd cX3_readAnd 4 (some .int) :: Gw) yX3_readAnd.cls) (hr : meth.sig.returnType = (some .int)) (hk : meth.locks = false) (K : va_K D vwCl (tyL cy) s) (E : EV ee A s s.heap) (hA : ∀ q, s.heap.size ≤ q → A q) {frr lor : Nat} (hfr : 8 ≤ frr) (hlo : 175 ≤ lor) {r_X3_readBothWays : StT → Option (Int32 × StT)} (hr_X3_readBothWays : ∀ (st : StT) (res : (Int32 × StT)), r_X3_readBothWays st = some res → CT l yX3_readBothWays cX3_readBothWays 6 (some .int) frr lor D cy ee (wC ad cy st) (wC ad cy res.2) [.ref (ad 11)] (some (.int res.1))) {r_X3_readImplication : StT → Option (Int32 × StT)} (hr_X3_readImplication : ∀ (st : StT) (res : (Int32 × StT)), r_X3_readImplication st = some res → CT l yX3_readImplication cX3_readImplication 4 (some .int) frr lor D cy ee (wC ad cy st) (wC ad cy res.2) [.ref (ad 11)] (some (.int res.1))) {r_X3_readOr : StT → Option (Int32 × StT)} (hr_X3_readOr : ∀ (st : StT) (res : (Int32 × StT)), r_X3_readOr st = some res → CT l yX3_readOr cX3_readOr 4 (some .int) frr lor D cy ee (wC ad cy st) (wC ad cy res.2) [.ref (ad 11)] (some (.int res.1))) {r_X3_readAnd : StT → Option (Int32 × StT)} (hr_X3_readAnd : ∀ (st : StT) (res : (Int32 × StT)), r_X3_readAnd st = some res → CT l yX3_readAnd cX3_readAnd 4 (some .int) frr lor D cy ee (wC ad cy st) (wC ad cy res.2) [.ref (ad 11)] (some (.int res.1))) {r_X3_readNot : StT → Option (Int32 × StT)} (hr_X3_readNot : ∀ (st : StT) (res : (Int32 × StT)), r_X3_readNot st = some res → CT l yX3_readNot cX3_readNot 4 (some .int) frr lor D cy ee (wC ad cy st) (wC ad cy res.2) [.ref (ad 11)] (some (.int res.1))) : ∀ (k : Nat) (st : StT) (x1 : Int32) (x2 : Int32), f_X3_readAnd_7 n r_X3_readBothWays r_X3_readImplication r_X3_readOr r_X3_readAnd r_X3_readNot k st x1 x2 = some res → ∀ (H : Heap) (locs : List Loc) (ls : Array Slot), ZG D (wC ad cy st) A s H locs → lv_has ls 4 [(0, .ref (ad 11)), (1, .int x1), (2, .int x2)] → W p l e { frames := frr + 1, cells := 0, slots := 0, locals := lor + 25 } s m args below meth c H locs 0 0 (MQ below (QC D (some (.int res.1)) (wC ad cy res.2) A) args s 0 0 A) (F0 m 7 ls []) := by
  have hx := F.1
  have hb := F.2.1
  intro k
  induction k with
  | zero =>
    intro st x1 x2 hf
    exact absurd hf (by simp [f_X3_readAnd_7])
  | succ k ih =>
    intro st x1 x2 hf H locs ls Z hl
    rw [f_X3_readAnd_7] at hf
    refine lv_iload_n hx hb dX3_readAnd_7 rfl (lv_at hl 2 rfl) ?_
    refine lv_sipush (v := 3000) hx hb dX3_readAnd_8 (by decide) ?_
    refine lv_icmp_ge (tgt := 56) hx hb dX3_readAnd_11 (by decide) (fun c11 => ?_) (fun c11 => ?_)
    · have hf := if_t c11 hf
      refine lv_iload_n hx hb dX3_readAnd_56 rfl (lv_at hl 1 rfl) ?_
      have hf := Option.some.inj hf
      subst hf
      exact ret_i F hr hk Z dX3_readAnd_57
    have hf := if_f c11 hf
    refine lv_aload_n hx hb dX3_readAnd_14 rfl (lv_at hl 0 rfl) ?_
    obtain ⟨q15, h15, hf⟩ := bind_some hf
    refine krX3_69_X3_look F K E hA Z h15 ⟨by show 7 ≤ frr + 1; omega, by show 154 ≤ lor + 25; omega⟩ hl.1 (Nat.le_of_ble_eq_true rfl) dX3_readAnd_15 (fun H locs Z => ?_)
    refine lv_bipush (v := 38) hx hb dX3_readAnd_18 (by decide) ?_
    refine lv_icmp_ne (tgt := 56) hx hb dX3_readAnd_20 (by decide) (fun c20 => ?_) (fun c20 => ?_)
    · have hf := if_f c20 hf
      refine lv_iload_n hx hb dX3_readAnd_56 rfl (lv_at hl 1 rfl) ?_
      have hf := Option.some.inj hf
      subst hf
      exact ret_i F hr hk Z dX3_readAnd_57
    have hf := if_t c20 hf
    refine lv_aload_n hx hb dX3_readAnd_23 rfl (lv_at hl 0 rfl) ?_
    refine grX3_24_11 F K Z dX3_readAnd_24 ?_
    obtain ⟨q27, h27, hf⟩ := bind_some hf
    refine krX3_62_X8_start F K E hA Z h27 ⟨by show 1 ≤ frr + 1; omega, by show 20 ≤ lor + 25; omega⟩ hl.1 (Nat.le_of_ble_eq_true rfl) dX3_readAnd_27 (fun H locs Z => ?_)
    refine lv_istore_n (lv' := [(3, .int q27.1), (0, .ref (ad 11)), (1, .int x1), (2, .int x2)]) hx hb dX3_readAnd_30 rfl hl (by decide) rfl (fun ls hl => ?_)
    refine lv_aload_n hx hb dX3_readAnd_31 rfl (lv_at hl 1 rfl) ?_
    refine grX3_24_11 F K Z dX3_readAnd_32 ?_
    obtain ⟨q35, h35, hf⟩ := bind_some hf
    refine krX3_70_X8_take F K E hA Z h35 ⟨by show 1 ≤ frr + 1; omega, by show 20 ≤ lor + 25; omega⟩ hl.1 (Nat.le_of_ble_eq_true rfl) dX3_readAnd_35 (fun H locs Z => ?_)
    refine lv_aload_n hx hb dX3_readAnd_38 rfl (lv_at hl 1 rfl) ?_
    refine lv_iconst (v := 3) hx hb dX3_readAnd_39 (by decide) ?_
    refine lv_iload_n hx hb dX3_readAnd_40 rfl (lv_at hl 2 rfl) ?_
    refine lv_aload_n hx hb dX3_readAnd_41 rfl (lv_at hl 1 rfl) ?_
    obtain ⟨q42, h42, hf⟩ := bind_some hf
    refine kroX3_96_X3_readNot F K E hA Z (hr_X3_readNot _ _ h42) ⟨by show frr + 1 ≤ frr + 1; omega, by show 23 + lor ≤ lor + 25; omega⟩ hl.1 (Nat.le_of_ble_eq_true rfl) dX3_readAnd_42 (fun H locs Z => ?_)
    refine lv_iload_n hx hb dX3_readAnd_45 rfl (lv_at hl 0 rfl) ?_
    obtain ⟨q46, h46, hf⟩ := bind_some hf
    refine krX3_86_X3_join F K E hA Z h46 ⟨by show 3 ≤ frr + 1; omega, by show 76 ≤ lor + 25; omega⟩ hl.1 (Nat.le_of_ble_eq_true rfl) dX3_readAnd_46 (fun H locs Z => ?_)
    refine lv_istore_n (lv' := [(1, .int q46.1), (3, .int q27.1), (0, .ref (ad 11)), (2, .int x2)]) hx hb dX3_readAnd_49 rfl hl (by decide) rfl (fun ls hl => ?_)
    refine lv_iinc (v := (x2 + (1 : Int32))) (lv' := [(2, .int (x2 + (1 : Int32))), (1, .int q46.1), (3, .int q27.1), (0, .ref (ad 11))]) hx hb dX3_readAnd_50 hl (k := 3) rfl (congrArg (fun z => x2 + z) (by decide)) (by decide) rfl (fun ls hl => ?_)
    refine lv_goto (tgt := 7) hx hb dX3_readAnd_53 (by decide) ?_
    exact ih _ _ _ hf _ _ _ Z (lv_sub hl [3, 1, 0] rfl)
set_option maxRecDepth 100000 in
set_option maxHeartbeats 4000000 in
theorem o_X3_readAnd {l : Launch} {D : va_G} {ad : Nat → Nat} {cy : Nat → ClassId} {ee : EE} {n : Nat} {frr lor : Nat} (hfr : 8 ≤ frr) (hlo : 175 ≤ lor) {r_X3_readBothWays : StT → Option (Int32 × StT)} (hr_X3_readBothWays : ∀ (st : StT) (res : (Int32 × StT)), r_X3_readBothWays st = some res → CT l yX3_readBothWays cX3_readBothWays 6 (some .int) frr lor D cy ee (wC ad cy st) (wC ad cy res.2) [.ref (ad 11)] (some (.int res.1))) {r_X3_readImplication : StT → Option (Int32 × StT)} (hr_X3_readImplication : ∀ (st : StT) (res : (Int32 × StT)), r_X3_readImplication st = some res → CT l yX3_readImplication cX3_readImplication 4 (some .int) frr lor D cy ee (wC ad cy st) (wC ad cy res.2) [.ref (ad 11)] (some (.int res.1))) {r_X3_readOr : StT → Option (Int32 × StT)} (hr_X3_readOr : ∀ (st : StT) (res : (Int32 × StT)), r_X3_readOr st = some res → CT l yX3_readOr cX3_readOr 4 (some .int) frr lor D cy ee (wC ad cy st) (wC ad cy res.2) [.ref (ad 11)] (some (.int res.1))) {r_X3_readAnd : StT → Option (Int32 × StT)} (hr_X3_readAnd : ∀ (st : StT) (res : (Int32 × StT)), r_X3_readAnd st = some res → CT l yX3_readAnd cX3_readAnd 4 (some .int) frr lor D cy ee (wC ad cy st) (wC ad cy res.2) [.ref (ad 11)] (some (.int res.1))) {r_X3_readNot : StT → Option (Int32 × StT)} (hr_X3_readNot : ∀ (st : StT) (res : (Int32 × StT)), r_X3_readNot st = some res → CT l yX3_readNot cX3_readNot 4 (some .int) frr lor D cy ee (wC ad cy st) (wC ad cy res.2) [.ref (ad 11)] (some (.int res.1))) {st : StT} {res : (Int32 × StT)} (hf : g_X3_readAnd n r_X3_readBothWays r_X3_readImplication r_X3_readOr r_X3_readAnd r_X3_readNot st = some res) : CT l yX3_readAnd cX3_readAnd 4 (some .int) (frr + 1) (lor + 25) D cy ee (wC ad cy st) (wC ad cy res.2) [.ref (ad 11)] (some (.int res.1)) := by
  refine CT.of (by decide +kernel) (Nat.le_of_ble_eq_true rfl) ?_
  intro p e s m args below meth c A F hr hk K E hA Z ls hl
  have hl : lv_has ls 4 [(0, .ref (ad 11))] := hl
  have hx := F.1
  have hb := F.2.1
  unfold g_X3_readAnd at hf
  refine lv_aload_n hx hb dX3_readAnd_0 rfl (lv_at hl 0 rfl) ?_
  obtain ⟨q1, h1, hf⟩ := bind_some hf
  refine kroX3_96_X3_readNot F K E hA Z (hr_X3_readNot _ _ h1) ⟨by show frr + 1 ≤ frr + 1; omega, by show 23 + lor ≤ lor + 25; omega⟩ hl.1 (Nat.le_of_ble_eq_true rfl) dX3_readAnd_1 (fun H locs Z => ?_)
  refine lv_istore_n (lv' := [(1, .int q1.1), (0, .ref (ad 11))]) hx hb dX3_readAnd_4 rfl hl (by decide) rfl (fun ls hl => ?_)
  refine lv_iconst (v := 0) hx hb dX3_readAnd_5 (by decide) ?_
  refine lv_istore_n (lv' := [(2, .int (0 : Int32)), (1, .int q1.1), (0, .ref (ad 11))]) hx hb dX3_readAnd_6 rfl hl (by decide) rfl (fun ls hl => ?_)
  exact b_X3_readAnd_7 F hr hk K E hA hfr hlo hr_X3_readBothWays hr_X3_readImplication hr_X3_readOr hr_X3_readAnd hr_X3_readNot _ _ _ _ hf _ _ _ Z (lv_sub hl [2, 1, 0] rfl)
set_option maxRecDepth 100000 in
set_option maxHeartbeats 4000000 in
theorem b_X3_readNot_72 {p : Program} {l : Launch} {e : Env} {s : State} {m : MethodId} {args : Array Value} {below : List Frame} {meth : Method} {c : Code} {D : va_G} {A : Nat → Prop} {ad : Nat → Nat} {cy : Nat → ClassId} {ee : EE} {n : Nat} {res : (Int32 × StT)} (F : CallFix p m c cX3_readNot 4 s args (Cond.code yX3_readNot cX3_readNot 4 (some .int) :: Gw) yX3_readNot.cls) (hr : meth.sig.returnType = (some .int)) (hk : meth.locks = false) (K : va_K D vwCl (tyL cy) s) (E : EV ee A s s.heap) (hA : ∀ q, s.heap.size ≤ q → A q) {frr lor : Nat} (hfr : 8 ≤ frr) (hlo : 175 ≤ lor) {r_X3_readBothWays : StT → Option (Int32 × StT)} (hr_X3_readBothWays : ∀ (st : StT) (res : (Int32 × StT)), r_X3_readBothWays st = some res → CT l yX3_readBothWays cX3_readBothWays 6 (some .int) frr lor D cy ee (wC ad cy st) (wC ad cy res.2) [.ref (ad 11)] (some (.int res.1))) {r_X3_readImplication : StT → Option (Int32 × StT)} (hr_X3_readImplication : ∀ (st : StT) (res : (Int32 × StT)), r_X3_readImplication st = some res → CT l yX3_readImplication cX3_readImplication 4 (some .int) frr lor D cy ee (wC ad cy st) (wC ad cy res.2) [.ref (ad 11)] (some (.int res.1))) {r_X3_readOr : StT → Option (Int32 × StT)} (hr_X3_readOr : ∀ (st : StT) (res : (Int32 × StT)), r_X3_readOr st = some res → CT l yX3_readOr cX3_readOr 4 (some .int) frr lor D cy ee (wC ad cy st) (wC ad cy res.2) [.ref (ad 11)] (some (.int res.1))) {r_X3_readAnd : StT → Option (Int32 × StT)} (hr_X3_readAnd : ∀ (st : StT) (res : (Int32 × StT)), r_X3_readAnd st = some res → CT l yX3_readAnd cX3_readAnd 4 (some .int) frr lor D cy ee (wC ad cy st) (wC ad cy res.2) [.ref (ad 11)] (some (.int res.1))) {r_X3_readNot : StT → Option (Int32 × StT)} (hr_X3_readNot : ∀ (st : StT) (res : (Int32 × StT)), r_X3_readNot st = some res → CT l yX3_readNot cX3_readNot 4 (some .int) frr lor D cy ee (wC ad cy st) (wC ad cy res.2) [.ref (ad 11)] (some (.int res.1))) : ∀ (st : StT) (x3 : Int32), f_X3_readNot_72 n r_X3_readBothWays r_X3_readImplication r_X3_readOr r_X3_readAnd r_X3_readNot st x3 = some res → ∀ (H : Heap) (locs : List Loc) (ls : Array Slot), ZG D (wC ad cy st) A s H locs → lv_has ls 4 [(0, .ref (ad 11)), (3, .int x3)] → W p l e { frames := frr + 1, cells := 0, slots := 0, locals := lor + 25 } s m args below meth c H locs 0 0 (MQ below (QC D (some (.int res.1)) (wC ad cy res.2) A) args s 0 0 A) (F0 m 72 ls []) := by
  have hx := F.1
  have hb := F.2.1
  intro st x3 hf H locs ls Z hl
  unfold f_X3_readNot_72 at hf
  refine lv_aload_n hx hb dX3_readNot_72 rfl (lv_at hl 0 rfl) ?_
  refine lv_dup hx hb dX3_readNot_73 rfl ?_
  refine grX3_53_11 F K Z dX3_readNot_74 ?_
  refine lv_iconst (v := 1) hx hb dX3_readNot_77 (by decide) ?_
  refine lv_isub hx hb dX3_readNot_78 ?_
  refine prX3_53_11 F K Z dX3_readNot_79 (fun H locs Z => ?_)
  refine lv_iload_n hx hb dX3_readNot_82 rfl (lv_at hl 1 rfl) ?_
  have hf := Option.some.inj hf
  subst hf
  exact ret_i F hr hk Z dX3_readNot_83
set_option maxRecDepth 100000 in
set_option maxHeartbeats 4000000 in
theorem b_X3_readNot_23 {p : Program} {l : Launch} {e : Env} {s : State} {m : MethodId} {args : Array Value} {below : List Frame} {meth : Method} {c : Code} {D : va_G} {A : Nat → Prop} {ad : Nat → Nat} {cy : Nat → ClassId} {ee : EE} {n : Nat} {res : (Int32 × StT)} (F : CallFix p m c cX3_readNot 4 s args (Cond.code yX3_readNot cX3_readNot 4 (some .int) :: Gw) yX3_readNot.cls) (hr : meth.sig.returnType = (some .int)) (hk : meth.locks = false) (K : va_K D vwCl (tyL cy) s) (E : EV ee A s s.heap) (hA : ∀ q, s.heap.size ≤ q → A q) {frr lor : Nat} (hfr : 8 ≤ frr) (hlo : 175 ≤ lor) {r_X3_readBothWays : StT → Option (Int32 × StT)} (hr_X3_readBothWays : ∀ (st : StT) (res : (Int32 × StT)), r_X3_readBothWays st = some res → CT l yX3_readBothWays cX3_readBothWays 6 (some .int) frr lor D cy ee (wC ad cy st) (wC ad cy res.2) [.ref (ad 11)] (some (.int res.1))) {r_X3_readImplication : StT → Option (Int32 × StT)} (hr_X3_readImplication : ∀ (st : StT) (res : (Int32 × StT)), r_X3_readImplication st = some res → CT l yX3_readImplication cX3_readImplication 4 (some .int) frr lor D cy ee (wC ad cy st) (wC ad cy res.2) [.ref (ad 11)] (some (.int res.1))) {r_X3_readOr : StT → Option (Int32 × StT)} (hr_X3_readOr : ∀ (st : StT) (res : (Int32 × StT)), r_X3_readOr st = some res → CT l yX3_readOr cX3_readOr 4 (some .int) frr lor D cy ee (wC ad cy st) (wC ad cy res.2) [.ref (ad 11)] (some (.int res.1))) {r_X3_readAnd : StT → Option (Int32 × StT)} (hr_X3_readAnd : ∀ (st : StT) (res : (Int32 × StT)), r_X3_readAnd st = some res → CT l yX3_readAnd cX3_readAnd 4 (some .int) frr lor D cy ee (wC ad cy st) (wC ad cy res.2) [.ref (ad 11)] (some (.int res.1))) {r_X3_readNot : StT → Option (Int32 × StT)} (hr_X3_readNot : ∀ (st : StT) (res : (Int32 × StT)), r_X3_readNot st = some res → CT l yX3_readNot cX3_readNot 4 (some .int) frr lor D cy ee (wC ad cy st) (wC ad cy res.2) [.ref (ad 11)] (some (.int res.1))) : ∀ (st : StT) (x1 : Int32), f_X3_readNot_23 n r_X3_readBothWays r_X3_readImplication r_X3_readOr r_X3_readAnd r_X3_readNot st x1 = some res → ∀ (H : Heap) (locs : List Loc) (ls : Array Slot), ZG D (wC ad cy st) A s H locs → lv_has ls 4 [(0, .ref (ad 11)), (1, .int x1)] → W p l e { frames := frr + 1, cells := 0, slots := 0, locals := lor + 25 } s m args below meth c H locs 0 0 (MQ below (QC D (some (.int res.1)) (wC ad cy res.2) A) args s 0 0 A) (F0 m 23 ls []) := by
  have hx := F.1
  have hb := F.2.1
  intro st x1 hf H locs ls Z hl
  unfold f_X3_readNot_23 at hf
  refine lv_aload_n hx hb dX3_readNot_23 rfl (lv_at hl 0 rfl) ?_
  refine grX3_24_11 F K Z dX3_readNot_24 ?_
  obtain ⟨q27, h27, hf⟩ := bind_some hf
  refine krX3_62_X8_start F K E hA Z h27 ⟨by show 1 ≤ frr + 1; omega, by show 20 ≤ lor + 25; omega⟩ hl.1 (Nat.le_of_ble_eq_true rfl) dX3_readNot_27 (fun H locs Z => ?_)
  refine lv_istore_n (lv' := [(2, .int q27.1), (0, .ref (ad 11)), (1, .int x1)]) hx hb dX3_readNot_30 rfl hl (by decide) rfl (fun ls hl => ?_)
  refine lv_aload_n hx hb dX3_readNot_31 rfl (lv_at hl 1 rfl) ?_
  obtain ⟨q32, h32, hf⟩ := bind_some hf
  refine krX3_82_X3_opens F K E hA Z h32 ⟨by show 2 ≤ frr + 1; omega, by show 42 ≤ lor + 25; omega⟩ hl.1 (Nat.le_of_ble_eq_true rfl) dX3_readNot_32 (fun H locs Z => ?_)
  refine lv_if_ne (tgt := 40) hx hb dX3_readNot_35 (by decide) (fun c35 => ?_) (fun c35 => ?_)
  · have hf := if_f c35 hf
    refine lv_iload_n hx hb dX3_readNot_40 rfl (lv_at hl 2 rfl) ?_
    refine lv_bipush (v := 126) hx hb dX3_readNot_41 (by decide) ?_
    refine lv_icmp_ne (tgt := 61) hx hb dX3_readNot_43 (by decide) (fun c43 => ?_) (fun c43 => ?_)
    · have hf := if_f c43 hf
      refine lv_aload_n hx hb dX3_readNot_61 rfl (lv_at hl 1 rfl) ?_
      obtain ⟨q62, h62, hf⟩ := bind_some hf
      refine kroX3_36_X3_readBothWays F K E hA Z (hr_X3_readBothWays _ _ h62) ⟨by show frr + 1 ≤ frr + 1; omega, by show 25 + lor ≤ lor + 25; omega⟩ hl.1 (Nat.le_of_ble_eq_true rfl) dX3_readNot_62 (fun H locs Z => ?_)
      refine lv_istore_n (lv' := [(3, .int q62.1), (2, .int q27.1), (0, .ref (ad 11)), (1, .int x1)]) hx hb dX3_readNot_65 rfl hl (by decide) rfl (fun ls hl => ?_)
      refine lv_aload_n hx hb dX3_readNot_66 rfl (lv_at hl 2 rfl) ?_
      refine lv_bipush (v := 41) hx hb dX3_readNot_67 (by decide) ?_
      obtain ⟨q69, h69, hf⟩ := bind_some hf
      refine krX3_42_X3_expect F K E hA Z h69 ⟨by show 8 ≤ frr + 1; omega, by show 175 ≤ lor + 25; omega⟩ hl.1 (Nat.le_of_ble_eq_true rfl) dX3_readNot_69 (fun H locs Z => ?_)
      exact b_X3_readNot_72 F hr hk K E hA hfr hlo hr_X3_readBothWays hr_X3_readImplication hr_X3_readOr hr_X3_readAnd hr_X3_readNot _ _ hf _ _ _ Z (lv_sub hl [2, 0] rfl)
    have hf := if_t c43 hf
    refine lv_aload_n hx hb dX3_readNot_46 rfl (lv_at hl 1 rfl) ?_
    refine lv_iconst (v := 5) hx hb dX3_readNot_47 (by decide) ?_
    refine lv_aload_n hx hb dX3_readNot_48 rfl (lv_at hl 1 rfl) ?_
    obtain ⟨q49, h49, hf⟩ := bind_some hf
    refine kroX3_96_X3_readNot F K E hA Z (hr_X3_readNot _ _ h49) ⟨by show frr + 1 ≤ frr + 1; omega, by show 23 + lor ≤ lor + 25; omega⟩ hl.1 (Nat.le_of_ble_eq_true rfl) dX3_readNot_49 (fun H locs Z => ?_)
    refine lv_iconst (v := 0) hx hb dX3_readNot_52 (by decide) ?_
    refine lv_iload_n hx hb dX3_readNot_53 rfl (lv_at hl 0 rfl) ?_
    obtain ⟨q54, h54, hf⟩ := bind_some hf
    refine krX3_86_X3_join F K E hA Z h54 ⟨by show 3 ≤ frr + 1; omega, by show 76 ≤ lor + 25; omega⟩ hl.1 (Nat.le_of_ble_eq_true rfl) dX3_readNot_54 (fun H locs Z => ?_)
    refine lv_istore_n (lv' := [(3, .int q54.1), (2, .int q27.1), (0, .ref (ad 11)), (1, .int x1)]) hx hb dX3_readNot_57 rfl hl (by decide) rfl (fun ls hl => ?_)
    refine lv_goto (tgt := 72) hx hb dX3_readNot_58 (by decide) ?_
    exact b_X3_readNot_72 F hr hk K E hA hfr hlo hr_X3_readBothWays hr_X3_readImplication hr_X3_readOr hr_X3_readAnd hr_X3_readNot _ _ hf _ _ _ Z (lv_sub hl [2, 0] rfl)
  have hf := if_t c35 hf
  refine lv_iconst (v := -1) hx hb dX3_readNot_38 (by decide) ?_
  have hf := Option.some.inj hf
  subst hf
  exact ret_i F hr hk Z dX3_readNot_39
set_option maxRecDepth 100000 in
set_option maxHeartbeats 4000000 in
theorem o_X3_readNot {l : Launch} {D : va_G} {ad : Nat → Nat} {cy : Nat → ClassId} {ee : EE} {n : Nat} {frr lor : Nat} (hfr : 8 ≤ frr) (hlo : 175 ≤ lor) {r_X3_readBothWays : StT → Option (Int32 × StT)} (hr_X3_readBothWays : ∀ (st : StT) (res : (Int32 × StT)), r_X3_readBothWays st = some res → CT l yX3_readBothWays cX3_readBothWays 6 (some .int) frr lor D cy ee (wC ad cy st) (wC ad cy res.2) [.ref (ad 11)] (some (.int res.1))) {r_X3_readImplication : StT → Option (Int32 × StT)} (hr_X3_readImplication : ∀ (st : StT) (res : (Int32 × StT)), r_X3_readImplication st = some res → CT l yX3_readImplication cX3_readImplication 4 (some .int) frr lor D cy ee (wC ad cy st) (wC ad cy res.2) [.ref (ad 11)] (some (.int res.1))) {r_X3_readOr : StT → Option (Int32 × StT)} (hr_X3_readOr : ∀ (st : StT) (res : (Int32 × StT)), r_X3_readOr st = some res → CT l yX3_readOr cX3_readOr 4 (some .int) frr lor D cy ee (wC ad cy st) (wC ad cy res.2) [.ref (ad 11)] (some (.int res.1))) {r_X3_readAnd : StT → Option (Int32 × StT)} (hr_X3_readAnd : ∀ (st : StT) (res : (Int32 × StT)), r_X3_readAnd st = some res → CT l yX3_readAnd cX3_readAnd 4 (some .int) frr lor D cy ee (wC ad cy st) (wC ad cy res.2) [.ref (ad 11)] (some (.int res.1))) {r_X3_readNot : StT → Option (Int32 × StT)} (hr_X3_readNot : ∀ (st : StT) (res : (Int32 × StT)), r_X3_readNot st = some res → CT l yX3_readNot cX3_readNot 4 (some .int) frr lor D cy ee (wC ad cy st) (wC ad cy res.2) [.ref (ad 11)] (some (.int res.1))) {st : StT} {res : (Int32 × StT)} (hf : g_X3_readNot n r_X3_readBothWays r_X3_readImplication r_X3_readOr r_X3_readAnd r_X3_readNot st = some res) : CT l yX3_readNot cX3_readNot 4 (some .int) (frr + 1) (lor + 25) D cy ee (wC ad cy st) (wC ad cy res.2) [.ref (ad 11)] (some (.int res.1)) := by
  refine CT.of (by decide +kernel) (Nat.le_of_ble_eq_true rfl) ?_
  intro p e s m args below meth c A F hr hk K E hA Z ls hl
  have hl : lv_has ls 4 [(0, .ref (ad 11))] := hl
  have hx := F.1
  have hb := F.2.1
  unfold g_X3_readNot at hf
  refine lv_aload_n hx hb dX3_readNot_0 rfl (lv_at hl 0 rfl) ?_
  obtain ⟨q1, h1, hf⟩ := bind_some hf
  refine krX3_69_X3_look F K E hA Z h1 ⟨by show 7 ≤ frr + 1; omega, by show 154 ≤ lor + 25; omega⟩ hl.1 (Nat.le_of_ble_eq_true rfl) dX3_readNot_1 (fun H locs Z => ?_)
  refine lv_istore_n (lv' := [(1, .int q1.1), (0, .ref (ad 11))]) hx hb dX3_readNot_4 rfl hl (by decide) rfl (fun ls hl => ?_)
  refine lv_iload_n hx hb dX3_readNot_5 rfl (lv_at hl 0 rfl) ?_
  refine lv_bipush (v := 126) hx hb dX3_readNot_6 (by decide) ?_
  refine lv_icmp_eq (tgt := 23) hx hb dX3_readNot_8 (by decide) (fun c8 => ?_) (fun c8 => ?_)
  · have hf := if_t c8 hf
    exact b_X3_readNot_23 F hr hk K E hA hfr hlo hr_X3_readBothWays hr_X3_readImplication hr_X3_readOr hr_X3_readAnd hr_X3_readNot _ _ hf _ _ _ Z (lv_sub hl [1, 0] rfl)
  have hf := if_f c8 hf
  refine lv_iload_n hx hb dX3_readNot_11 rfl (lv_at hl 0 rfl) ?_
  refine lv_bipush (v := 40) hx hb dX3_readNot_12 (by decide) ?_
  refine lv_icmp_eq (tgt := 23) hx hb dX3_readNot_14 (by decide) (fun c14 => ?_) (fun c14 => ?_)
  · have hf := if_t c14 hf
    exact b_X3_readNot_23 F hr hk K E hA hfr hlo hr_X3_readBothWays hr_X3_readImplication hr_X3_readOr hr_X3_readAnd hr_X3_readNot _ _ hf _ _ _ Z (lv_sub hl [1, 0] rfl)
  have hf := if_f c14 hf
  refine lv_aload_n hx hb dX3_readNot_17 rfl (lv_at hl 1 rfl) ?_
  refine lv_iload_n hx hb dX3_readNot_18 rfl (lv_at hl 0 rfl) ?_
  obtain ⟨q19, h19, hf⟩ := bind_some hf
  refine krX3_99_X3_readLeaf F K E hA Z h19 ⟨by show 5 ≤ frr + 1; omega, by show 114 ≤ lor + 25; omega⟩ hl.1 (Nat.le_of_ble_eq_true rfl) dX3_readNot_19 (fun H locs Z => ?_)
  have hf := Option.some.inj hf
  subst hf
  exact ret_i F hr hk Z dX3_readNot_22
def rec_RF (n : Nat) : Nat → (StT → Option (Int32 × StT)) × (StT → Option (Int32 × StT)) × (StT → Option (Int32 × StT)) × (StT → Option (Int32 × StT)) × (StT → Option (Int32 × StT))
  | 0 => ((fun _ => none), (fun _ => none), (fun _ => none), (fun _ => none), (fun _ => none))
  | d + 1 => ((fun st => g_X3_readBothWays n (rec_RF n d).1 (rec_RF n d).2.1 (rec_RF n d).2.2.1 (rec_RF n d).2.2.2.1 (rec_RF n d).2.2.2.2 st), (fun st => g_X3_readImplication n (rec_RF n d).1 (rec_RF n d).2.1 (rec_RF n d).2.2.1 (rec_RF n d).2.2.2.1 (rec_RF n d).2.2.2.2 st), (fun st => g_X3_readOr n (rec_RF n d).1 (rec_RF n d).2.1 (rec_RF n d).2.2.1 (rec_RF n d).2.2.2.1 (rec_RF n d).2.2.2.2 st), (fun st => g_X3_readAnd n (rec_RF n d).1 (rec_RF n d).2.1 (rec_RF n d).2.2.1 (rec_RF n d).2.2.2.1 (rec_RF n d).2.2.2.2 st), (fun st => g_X3_readNot n (rec_RF n d).1 (rec_RF n d).2.1 (rec_RF n d).2.2.1 (rec_RF n d).2.2.2.1 (rec_RF n d).2.2.2.2 st))
theorem rec_RF_ok {l : Launch} {D : va_G} {ad : Nat → Nat} {cy : Nat → ClassId} {ee : EE} {n : Nat} : ∀ d : Nat, (∀ (st : StT) (res : (Int32 × StT)), (rec_RF n d).1 st = some res → CT l yX3_readBothWays cX3_readBothWays 6 (some .int) (8 + d) (175 + 25 * d) D cy ee (wC ad cy st) (wC ad cy res.2) [.ref (ad 11)] (some (.int res.1))) ∧ (∀ (st : StT) (res : (Int32 × StT)), (rec_RF n d).2.1 st = some res → CT l yX3_readImplication cX3_readImplication 4 (some .int) (8 + d) (175 + 25 * d) D cy ee (wC ad cy st) (wC ad cy res.2) [.ref (ad 11)] (some (.int res.1))) ∧ (∀ (st : StT) (res : (Int32 × StT)), (rec_RF n d).2.2.1 st = some res → CT l yX3_readOr cX3_readOr 4 (some .int) (8 + d) (175 + 25 * d) D cy ee (wC ad cy st) (wC ad cy res.2) [.ref (ad 11)] (some (.int res.1))) ∧ (∀ (st : StT) (res : (Int32 × StT)), (rec_RF n d).2.2.2.1 st = some res → CT l yX3_readAnd cX3_readAnd 4 (some .int) (8 + d) (175 + 25 * d) D cy ee (wC ad cy st) (wC ad cy res.2) [.ref (ad 11)] (some (.int res.1))) ∧ (∀ (st : StT) (res : (Int32 × StT)), (rec_RF n d).2.2.2.2 st = some res → CT l yX3_readNot cX3_readNot 4 (some .int) (8 + d) (175 + 25 * d) D cy ee (wC ad cy st) (wC ad cy res.2) [.ref (ad 11)] (some (.int res.1))) := by
  intro d
  induction d with
  | zero =>
    refine ⟨?_, ?_, ?_, ?_, ?_⟩ <;> (intros; rename_i h; cases h)
  | succ d ih =>
    obtain ⟨ih0, ih1, ih2, ih3, ih4⟩ := ih
    refine ⟨?_, ?_, ?_, ?_, ?_⟩
    · intro st res hf
      exact o_X3_readBothWays (frr := 8 + d) (lor := 175 + 25 * d) (by omega) (by omega) ih0 ih1 ih2 ih3 ih4 hf
    · intro st res hf
      exact o_X3_readImplication (frr := 8 + d) (lor := 175 + 25 * d) (by omega) (by omega) ih0 ih1 ih2 ih3 ih4 hf
    · intro st res hf
      exact o_X3_readOr (frr := 8 + d) (lor := 175 + 25 * d) (by omega) (by omega) ih0 ih1 ih2 ih3 ih4 hf
    · intro st res hf
      exact o_X3_readAnd (frr := 8 + d) (lor := 175 + 25 * d) (by omega) (by omega) ih0 ih1 ih2 ih3 ih4 hf
    · intro st res hf
      exact o_X3_readNot (frr := 8 + d) (lor := 175 + 25 * d) (by omega) (by omega) ih0 ih1 ih2 ih3 ih4 hf
def f_X3_readBothWays (n : Nat) (st : StT) : Option (Int32 × StT) := (rec_RF n 260).1 st
theorem c_X3_readBothWays {l : Launch} {D : va_G} {ad : Nat → Nat} {cy : Nat → ClassId} {ee : EE} {n : Nat} {st : StT} {res : (Int32 × StT)} (hf : f_X3_readBothWays n st = some res) : CT l yX3_readBothWays cX3_readBothWays 6 (some .int) 268 6675 D cy ee (wC ad cy st) (wC ad cy res.2) [.ref (ad 11)] (some (.int res.1)) := (rec_RF_ok 260).1 st res hf
def f_X3_readImplication (n : Nat) (st : StT) : Option (Int32 × StT) := (rec_RF n 260).2.1 st
theorem c_X3_readImplication {l : Launch} {D : va_G} {ad : Nat → Nat} {cy : Nat → ClassId} {ee : EE} {n : Nat} {st : StT} {res : (Int32 × StT)} (hf : f_X3_readImplication n st = some res) : CT l yX3_readImplication cX3_readImplication 4 (some .int) 268 6675 D cy ee (wC ad cy st) (wC ad cy res.2) [.ref (ad 11)] (some (.int res.1)) := (rec_RF_ok 260).2.1 st res hf
def f_X3_readOr (n : Nat) (st : StT) : Option (Int32 × StT) := (rec_RF n 260).2.2.1 st
theorem c_X3_readOr {l : Launch} {D : va_G} {ad : Nat → Nat} {cy : Nat → ClassId} {ee : EE} {n : Nat} {st : StT} {res : (Int32 × StT)} (hf : f_X3_readOr n st = some res) : CT l yX3_readOr cX3_readOr 4 (some .int) 268 6675 D cy ee (wC ad cy st) (wC ad cy res.2) [.ref (ad 11)] (some (.int res.1)) := (rec_RF_ok 260).2.2.1 st res hf
def f_X3_readAnd (n : Nat) (st : StT) : Option (Int32 × StT) := (rec_RF n 260).2.2.2.1 st
theorem c_X3_readAnd {l : Launch} {D : va_G} {ad : Nat → Nat} {cy : Nat → ClassId} {ee : EE} {n : Nat} {st : StT} {res : (Int32 × StT)} (hf : f_X3_readAnd n st = some res) : CT l yX3_readAnd cX3_readAnd 4 (some .int) 268 6675 D cy ee (wC ad cy st) (wC ad cy res.2) [.ref (ad 11)] (some (.int res.1)) := (rec_RF_ok 260).2.2.2.1 st res hf
def f_X3_readNot (n : Nat) (st : StT) : Option (Int32 × StT) := (rec_RF n 260).2.2.2.2 st
theorem c_X3_readNot {l : Launch} {D : va_G} {ad : Nat → Nat} {cy : Nat → ClassId} {ee : EE} {n : Nat} {st : StT} {res : (Int32 × StT)} (hf : f_X3_readNot n st = some res) : CT l yX3_readNot cX3_readNot 4 (some .int) 268 6675 D cy ee (wC ad cy st) (wC ad cy res.2) [.ref (ad 11)] (some (.int res.1)) := (rec_RF_ok 260).2.2.2.2 st res hf
def f_X3_readHypothesis (n : Nat) (st : StT) (x1 : Int32) : Option (Int32 × StT) := (f_X8_hypothesis n st).bind fun q4 => (if 0 ≤ q4.1 then (if q4.1 < x1 then ((f_X8_take n q4.2).bind fun q48 => ((f_X7_hypothesis_T0 n q48 q4.1).bind fun q56 => (some (q56.1, q56.2)))) else ((f_X8_start n q4.2).bind fun q37 => ((f_X3_fail n q37.2 (6 : Int32) q37.1).bind fun q40 => (some (q40.1, q40.2))))) else ((f_X8_start n q4.2).bind fun q18 => ((f_X3_fail n q18.2 (2 : Int32) q18.1).bind fun q21 => (some (q21.1, q21.2)))))
theorem wd698 : Cond.fieldLink RX3 14 "WorldProver$Reader" "terms" "LWorldProver$Terms;" ∈ Gw := gT1 (List.mem_of_getElem? (i := 153) rfl) rfl
theorem wd699 : Cond.methodLink RX3 142 yX7_hypothesis ∈ Gw := gT5 (List.mem_of_getElem? (i := 73) rfl) rfl
theorem wd700 : Cond.methodLink RX3 139 yX8_hypothesis ∈ Gw := gT5 (List.mem_of_getElem? (i := 69) rfl) rfl
theorem wd701 : Cond.code yX8_hypothesis prog_10_method_10_code 6 (some .int) ∈ Gw := gT5 (List.mem_of_getElem? (i := 72) rfl) rfl
theorem wd702 : Cond.instanceMethod yX8_hypothesis ∈ Gw := gT5 (List.mem_of_getElem? (i := 70) rfl) rfl
theorem wd703 : Cond.selects RX8 yX8_hypothesis yX8_hypothesis ∈ Gw := gT5 (List.mem_of_getElem? (i := 71) rfl) rfl
section
variable {p : Program} {l : Launch} {e : Env} {R : Room} {s : State} {m : MethodId} {args : Array Value} {below : List Frame} {meth : Method} {c : Code} {H : Heap} {locs : List Loc} {Q : State → Prop}
variable {cc : ByteArray} {nL pc : Nat} {ls : Array Slot} {rest : List Value} {D : va_G} {A : Nat → Prop} {cw : Cond} {ad : Nat → Nat} {cy : Nat → ClassId} {ee : EE} {st : StT} {own : String}
theorem grX3_14_11 (F : CallFix p m c cc nL s args (cw :: Gw) RX3) (K : va_K D vwCl (tyL cy) s) (Z : ZG D (wC ad cy st) A s H locs) (hd : decode cc pc = .ok (.getfield 14, 3)) (kk : W p l e R s m args below meth c H locs 0 0 Q (F0 m (pc + 3) ls (.ref (ad 12) :: rest))) : W p l e R s m args below meth c H locs 0 0 Q (F0 m pc ls (.ref (ad 11) :: rest)) :=
  va_get (D := D) (ci := 3) (C := RX3) (T := TX3) (N := 6) F.1 F.2.1 F.2.2.2.2 (fun w h => List.mem_cons_of_mem _ (inG_X3 w h)) F.2.2.2.1 K Z.1 11 rfl rfl 2 (by decide) (F.2.2.2.2 _ (List.mem_cons_of_mem _ wd698)) (fun _ h => h) rfl hd kk
theorem krX3_142_X7_hypothesis_T0 {n : Nat} {a0 : Int32} {q : (Int32 × StT)} (F : CallFix p m c cc nL s args (cw :: Gw) RX3) (K : va_K D vwCl (tyL cy) s) (E : EV ee A s s.heap) (hA : ∀ q, s.heap.size ≤ q → A q) (Z : ZG D (wC ad cy st) A s H locs) (hf : f_X7_hypothesis_T0 n st a0 = some q) (hR : 2 ≤ R.frames ∧ 47 ≤ R.locals) (hl : ls.size = nL) (hst : (rest.map fun v => v.category).sum ≤ 8) (hd : decode cc pc = .ok (.invokevirtual 142, 3)) (kk : ∀ (H1 : Heap) (locs1 : List Loc), ZG D (wC ad cy q.2) A s H1 locs1 → W p l e R s m args below meth c H1 locs1 0 0 Q (F0 m (pc + 3) ls (.int q.1 :: rest))) : W p l e R s m args below meth c H locs 0 0 Q (F0 m pc ls (.int a0 :: .ref (ad 12) :: rest)) :=
  call_V (q := (RX7, TX7, 7)) (n := 1) (As := [.int a0]) (rv := some (.int q.1)) 12 7 F K E hA Z (c_X7_hypothesis_T0 (l := l) (D := D) (ad := ad) (cy := cy) (ee := ee) hf) ⟨wd183, wd699, wd184, wd185, wd60⟩ (by decide +kernel) rfl rfl hR rfl hl hst hd kk
theorem krX3_139_X8_hypothesis {n : Nat}  {q : (Int32 × StT)} (F : CallFix p m c cc nL s args (cw :: Gw) RX3) (K : va_K D vwCl (tyL cy) s) (E : EV ee A s s.heap) (hA : ∀ q, s.heap.size ≤ q → A q) (Z : ZG D (wC ad cy st) A s H locs) (hf : f_X8_hypothesis n st = some q) (hR : 2 ≤ R.frames ∧ 46 ≤ R.locals) (hl : ls.size = nL) (hst : (rest.map fun v => v.category).sum ≤ 8) (hd : decode cc pc = .ok (.invokevirtual 139, 3)) (kk : ∀ (H1 : Heap) (locs1 : List Loc), ZG D (wC ad cy q.2) A s H1 locs1 → W p l e R s m args below meth c H1 locs1 0 0 Q (F0 m (pc + 3) ls (.int q.1 :: rest))) : W p l e R s m args below meth c H locs 0 0 Q (F0 m pc ls (.ref (ad 2) :: rest)) :=
  call_V (q := (RX8, TX8, 8)) (n := 0) (As := []) (rv := some (.int q.1)) 2 8 F K E hA Z (c_X8_hypothesis (l := l) (D := D) (ad := ad) (cy := cy) (ee := ee) hf) ⟨wd701, wd700, wd702, wd703, wd472⟩ (by decide +kernel) rfl rfl hR rfl hl hst hd kk
end
set_option maxRecDepth 100000 in
set_option maxHeartbeats 4000000 in
theorem c_X3_readHypothesis {l : Launch} {D : va_G} {ad : Nat → Nat} {cy : Nat → ClassId} {ee : EE} {n : Nat} {st : StT} {x1 : Int32} {res : (Int32 × StT)} (hf : f_X3_readHypothesis n st x1 = some res) : CT l yX3_readHypothesis cX3_readHypothesis 3 (some .int) 2 47 D cy ee (wC ad cy st) (wC ad cy res.2) [.ref (ad 11), .int x1] (some (.int res.1)) := by
  refine CT.of (by decide +kernel) (Nat.le_of_ble_eq_true rfl) ?_
  intro p e s m args below meth c A F hr hk K E hA Z ls hl
  have hl : lv_has ls 3 [(0, .ref (ad 11)), (1, .int x1)] := hl
  have hx := F.1
  have hb := F.2.1
  unfold f_X3_readHypothesis at hf
  refine lv_aload_n hx hb dX3_readHypothesis_0 rfl (lv_at hl 0 rfl) ?_
  refine grX3_24_11 F K Z dX3_readHypothesis_1 ?_
  obtain ⟨q4, h4, hf⟩ := bind_some hf
  refine krX3_139_X8_hypothesis F K E hA Z h4 ⟨Nat.le_of_ble_eq_true rfl, Nat.le_of_ble_eq_true rfl⟩ hl.1 (Nat.le_of_ble_eq_true rfl) dX3_readHypothesis_4 (fun H locs Z => ?_)
  refine lv_istore_n (lv' := [(2, .int q4.1), (0, .ref (ad 11)), (1, .int x1)]) hx hb dX3_readHypothesis_7 rfl hl (by decide) rfl (fun ls hl => ?_)
  refine lv_iload_n hx hb dX3_readHypothesis_8 rfl (lv_at hl 0 rfl) ?_
  refine lv_if_ge (tgt := 25) hx hb dX3_readHypothesis_9 (by decide) (fun c9 => ?_) (fun c9 => ?_)
  · have hf := if_t c9 hf
    refine lv_iload_n hx hb dX3_readHypothesis_25 rfl (lv_at hl 0 rfl) ?_
    refine lv_iload_n hx hb dX3_readHypothesis_26 rfl (lv_at hl 2 rfl) ?_
    refine lv_icmp_lt (tgt := 44) hx hb dX3_readHypothesis_27 (by decide) (fun c27 => ?_) (fun c27 => ?_)
    · have hf := if_t c27 hf
      refine lv_aload_n hx hb dX3_readHypothesis_44 rfl (lv_at hl 1 rfl) ?_
      refine grX3_24_11 F K Z dX3_readHypothesis_45 ?_
      obtain ⟨q48, h48, hf⟩ := bind_some hf
      refine krX3_70_X8_take F K E hA Z h48 ⟨Nat.le_of_ble_eq_true rfl, Nat.le_of_ble_eq_true rfl⟩ hl.1 (Nat.le_of_ble_eq_true rfl) dX3_readHypothesis_48 (fun H locs Z => ?_)
      refine lv_aload_n hx hb dX3_readHypothesis_51 rfl (lv_at hl 1 rfl) ?_
      refine grX3_14_11 F K Z dX3_readHypothesis_52 ?_
      refine lv_iload_n hx hb dX3_readHypothesis_55 rfl (lv_at hl 0 rfl) ?_
      obtain ⟨q56, h56, hf⟩ := bind_some hf
      refine krX3_142_X7_hypothesis_T0 F K E hA Z h56 ⟨Nat.le_of_ble_eq_true rfl, Nat.le_of_ble_eq_true rfl⟩ hl.1 (Nat.le_of_ble_eq_true rfl) dX3_readHypothesis_56 (fun H locs Z => ?_)
      have hf := Option.some.inj hf
      subst hf
      exact ret_i F hr hk Z dX3_readHypothesis_59
    have hf := if_f c27 hf
    refine lv_aload_n hx hb dX3_readHypothesis_30 rfl (lv_at hl 1 rfl) ?_
    refine lv_bipush (v := 6) hx hb dX3_readHypothesis_31 (by decide) ?_
    refine lv_aload_n hx hb dX3_readHypothesis_33 rfl (lv_at hl 1 rfl) ?_
    refine grX3_24_11 F K Z dX3_readHypothesis_34 ?_
    obtain ⟨q37, h37, hf⟩ := bind_some hf
    refine krX3_62_X8_start F K E hA Z h37 ⟨Nat.le_of_ble_eq_true rfl, Nat.le_of_ble_eq_true rfl⟩ hl.1 (Nat.le_of_ble_eq_true rfl) dX3_readHypothesis_37 (fun H locs Z => ?_)
    obtain ⟨q40, h40, hf⟩ := bind_some hf
    refine krX3_65_X3_fail F K E hA Z h40 ⟨Nat.le_of_ble_eq_true rfl, Nat.le_of_ble_eq_true rfl⟩ hl.1 (Nat.le_of_ble_eq_true rfl) dX3_readHypothesis_40 (fun H locs Z => ?_)
    have hf := Option.some.inj hf
    subst hf
    exact ret_i F hr hk Z dX3_readHypothesis_43
  have hf := if_f c9 hf
  refine lv_aload_n hx hb dX3_readHypothesis_12 rfl (lv_at hl 1 rfl) ?_
  refine lv_iconst (v := 2) hx hb dX3_readHypothesis_13 (by decide) ?_
  refine lv_aload_n hx hb dX3_readHypothesis_14 rfl (lv_at hl 1 rfl) ?_
  refine grX3_24_11 F K Z dX3_readHypothesis_15 ?_
  obtain ⟨q18, h18, hf⟩ := bind_some hf
  refine krX3_62_X8_start F K E hA Z h18 ⟨Nat.le_of_ble_eq_true rfl, Nat.le_of_ble_eq_true rfl⟩ hl.1 (Nat.le_of_ble_eq_true rfl) dX3_readHypothesis_18 (fun H locs Z => ?_)
  obtain ⟨q21, h21, hf⟩ := bind_some hf
  refine krX3_65_X3_fail F K E hA Z h21 ⟨Nat.le_of_ble_eq_true rfl, Nat.le_of_ble_eq_true rfl⟩ hl.1 (Nat.le_of_ble_eq_true rfl) dX3_readHypothesis_21 (fun H locs Z => ?_)
  have hf := Option.some.inj hf
  subst hf
  exact ret_i F hr hk Z dX3_readHypothesis_24




























def f_X3_readTerm_92 (n : Nat) (r_X3_readTerm : StT → Int32 → Option (Int32 × StT)) (r_X3_readPart : StT → Int32 → Int32 → Int32 → Option (Int32 × StT)) (st : StT) (x1 : Int32) (x2 : Int32) (x3 : Int32) : Option (Int32 × StT) := (r_X3_readPart st x2 (0 : Int32) x1).bind fun q96 => ((r_X3_readPart q96.2 x2 (1 : Int32) x1).bind fun q105 => ((r_X3_readPart q105.2 x2 (2 : Int32) x1).bind fun q114 => ((f_X3_expect n q114.2 (41 : Int32)).bind fun q122 => (if x2 = (76 : Int32) then ((f_X7_add_T0 n (uF q122 9 ((q122.1 9) - (1 : Int32))) x2 q96.1 x3 q114.1 (-1 : Int32)).bind fun q157 => (some (q157.1, q157.2))) else ((f_X7_add_T0 n (uF q122 9 ((q122.1 9) - (1 : Int32))) x2 q96.1 q105.1 q114.1 (-1 : Int32)).bind fun q157 => (some (q157.1, q157.2)))))))
def g_X3_readTerm (n : Nat) (r_X3_readTerm : StT → Int32 → Option (Int32 × StT)) (r_X3_readPart : StT → Int32 → Int32 → Int32 → Option (Int32 × StT)) (st : StT) (x1 : Int32) : Option (Int32 × StT) := (f_X3_look n st).bind fun q1 => (if q1.1 = (110 : Int32) then ((f_X3_readHypothesis n q1.2 x1).bind fun q13 => (some (q13.1, q13.2))) else (if q1.1 = (84 : Int32) then ((f_X8_take n q1.2).bind fun q27 => ((f_X7_unit_T0 n q27).bind fun q34 => (some (q34.1, q34.2)))) else ((f_X7_partsOf n q1.2 q1.1).bind fun q39 => (if q39.1 = 0 then ((f_X8_start n q39.2).bind fun q51 => ((f_X3_fail n q51.2 (2 : Int32) q51.1).bind fun q54 => (some (q54.1, q54.2)))) else ((f_X3_opens n q39.2).bind fun q59 => (if q59.1 = 0 then (some ((-1 : Int32), q59.2)) else ((f_X3_expect n q59.2 (40 : Int32)).bind fun q70 => (if q1.1 = (76 : Int32) then ((f_X3_readBothWays n q70).bind fun q82 => ((f_X3_expect n q82.2 (44 : Int32)).bind fun q89 => (f_X3_readTerm_92 n r_X3_readTerm r_X3_readPart q89 x1 q1.1 q82.1))) else (f_X3_readTerm_92 n r_X3_readTerm r_X3_readPart q70 x1 q1.1 (0 : Int32))))))))))
def f_X3_readPart_20 (n : Nat) (r_X3_readTerm : StT → Int32 → Option (Int32 × StT)) (r_X3_readPart : StT → Int32 → Int32 → Int32 → Option (Int32 × StT)) (st : StT) (x1 : Int32) (x2 : Int32) (x3 : Int32) : Option (Int32 × StT) := (f_X7_binds n st x1 x2).bind fun q23 => (if q23.1 = 0 then ((r_X3_readTerm q23.2 x3).bind fun q36 => (some (q36.1, q36.2))) else ((r_X3_readTerm q23.2 (x3 + (1 : Int32))).bind fun q36 => (some (q36.1, q36.2))))
def g_X3_readPart (n : Nat) (r_X3_readTerm : StT → Int32 → Option (Int32 × StT)) (r_X3_readPart : StT → Int32 → Int32 → Int32 → Option (Int32 × StT)) (st : StT) (x1 : Int32) (x2 : Int32) (x3 : Int32) : Option (Int32 × StT) := (f_X7_partsOf n st x1).bind fun q2 => (if x2 < q2.1 then (if x2 ≤ 0 then (f_X3_readPart_20 n r_X3_readTerm r_X3_readPart q2.2 x1 x2 x3) else ((f_X3_expect n q2.2 (44 : Int32)).bind fun q17 => (f_X3_readPart_20 n r_X3_readTerm r_X3_readPart q17 x1 x2 x3))) else (some ((0 : Int32), q2.2)))
theorem wd704 : Cond.methodLink RX3 125 yX7_partsOf ∈ Gw := gT5 (List.mem_of_getElem? (i := 75) rfl) rfl
theorem wd705 : Cond.methodLink RX3 122 yX7_unit ∈ Gw := gT5 (List.mem_of_getElem? (i := 74) rfl) rfl
theorem wd706 : Cond.methodLink RX3 119 yX3_readHypothesis ∈ Gw := gT5 (List.mem_of_getElem? (i := 65) rfl) rfl
theorem wd707 : Cond.code yX3_readHypothesis prog_5_method_19_code 3 (some .int) ∈ Gw := gT5 (List.mem_of_getElem? (i := 68) rfl) rfl
theorem wd708 : Cond.instanceMethod yX3_readHypothesis ∈ Gw := gT5 (List.mem_of_getElem? (i := 67) rfl) rfl
theorem wd709 : Cond.selects RX3 yX3_readHypothesis yX3_readHypothesis ∈ Gw := gP4 (q := (yX3_readHypothesis, 6)) (List.mem_of_getElem? (i := 2) rfl)
theorem wd710 : Cond.methodLink RX3 131 yX7_add ∈ Gw := gT5 (List.mem_of_getElem? (i := 81) rfl) rfl
theorem wd711 : Cond.methodLink RX3 128 yX3_readPart ∈ Gw := gT5 (List.mem_of_getElem? (i := 76) rfl) rfl
theorem wd712 : Cond.code yX3_readPart prog_5_method_18_code 4 (some .int) ∈ Gw := gT5 (List.mem_of_getElem? (i := 79) rfl) rfl
theorem wd713 : Cond.instanceMethod yX3_readPart ∈ Gw := gT5 (List.mem_of_getElem? (i := 78) rfl) rfl
theorem wd714 : Cond.selects RX3 yX3_readPart yX3_readPart ∈ Gw := gP4 (q := (yX3_readPart, 6)) (List.mem_of_getElem? (i := 3) rfl)
theorem wd715 : Cond.methodLink RX3 48 yX3_readTerm ∈ Gw := gT5 (List.mem_of_getElem? (i := 61) rfl) rfl
theorem wd716 : Cond.code yX3_readTerm prog_5_method_17_code 7 (some .int) ∈ Gw := gT5 (List.mem_of_getElem? (i := 64) rfl) rfl
theorem wd717 : Cond.instanceMethod yX3_readTerm ∈ Gw := gT5 (List.mem_of_getElem? (i := 63) rfl) rfl
theorem wd718 : Cond.selects RX3 yX3_readTerm yX3_readTerm ∈ Gw := gP4 (q := (yX3_readTerm, 6)) (List.mem_of_getElem? (i := 1) rfl)
theorem wd719 : Cond.methodLink RX3 135 yX7_binds ∈ Gw := gT5 (List.mem_of_getElem? (i := 80) rfl) rfl
section
variable {p : Program} {l : Launch} {e : Env} {R : Room} {s : State} {m : MethodId} {args : Array Value} {below : List Frame} {meth : Method} {c : Code} {H : Heap} {locs : List Loc} {Q : State → Prop}
variable {cc : ByteArray} {nL pc : Nat} {ls : Array Slot} {rest : List Value} {D : va_G} {A : Nat → Prop} {cw : Cond} {ad : Nat → Nat} {cy : Nat → ClassId} {ee : EE} {st : StT} {own : String}
theorem krX3_36_X3_readBothWays {n : Nat}  {q : (Int32 × StT)} (F : CallFix p m c cc nL s args (cw :: Gw) RX3) (K : va_K D vwCl (tyL cy) s) (E : EV ee A s s.heap) (hA : ∀ q, s.heap.size ≤ q → A q) (Z : ZG D (wC ad cy st) A s H locs) (hf : f_X3_readBothWays n st = some q) (hR : 269 ≤ R.frames ∧ 6700 ≤ R.locals) (hl : ls.size = nL) (hst : (rest.map fun v => v.category).sum ≤ 8) (hd : decode cc pc = .ok (.invokevirtual 36, 3)) (kk : ∀ (H1 : Heap) (locs1 : List Loc), ZG D (wC ad cy q.2) A s H1 locs1 → W p l e R s m args below meth c H1 locs1 0 0 Q (F0 m (pc + 3) ls (.int q.1 :: rest))) : W p l e R s m args below meth c H locs 0 0 Q (F0 m pc ls (.ref (ad 11) :: rest)) :=
  call_V (q := (RX3, TX3, 6)) (n := 0) (As := []) (rv := some (.int q.1)) 11 3 F K E hA Z (c_X3_readBothWays (l := l) (D := D) (ad := ad) (cy := cy) (ee := ee) hf) ⟨wd695, wd694, wd696, wd697, wd623⟩ (by decide +kernel) rfl rfl hR rfl hl hst hd kk
theorem krX3_125_X7_partsOf {n : Nat} {a0 : Int32} {q : (Int32 × StT)} (F : CallFix p m c cc nL s args (cw :: Gw) RX3) (K : va_K D vwCl (tyL cy) s) (E : EV ee A s s.heap) (hA : ∀ q, s.heap.size ≤ q → A q) (Z : ZG D (wC ad cy st) A s H locs) (hf : f_X7_partsOf n st a0 = some q) (hR : 1 ≤ R.frames ∧ 20 ≤ R.locals) (hl : ls.size = nL) (hst : (rest.map fun v => v.category).sum ≤ 8) (hd : decode cc pc = .ok (.invokestatic 125, 3)) (kk : ∀ (H1 : Heap) (locs1 : List Loc), ZG D (wC ad cy q.2) A s H1 locs1 → W p l e R s m args below meth c H1 locs1 0 0 Q (F0 m (pc + 3) ls (.int q.1 :: rest))) : W p l e R s m args below meth c H locs 0 0 Q (F0 m pc ls (.int a0 :: rest)) :=
  call_S (n := 1) (As := [.int a0]) (rv := some (.int q.1)) F K E hA Z (c_X7_partsOf (l := l) (D := D) (ad := ad) (cy := cy) (ee := ee) hf) ⟨wd603, wd704, wd604, wd60⟩ (by decide +kernel) hR rfl hl hst hd kk
theorem krX3_122_X7_unit_T0 {n : Nat}  {q : (Int32 × StT)} (F : CallFix p m c cc nL s args (cw :: Gw) RX3) (K : va_K D vwCl (tyL cy) s) (E : EV ee A s s.heap) (hA : ∀ q, s.heap.size ≤ q → A q) (Z : ZG D (wC ad cy st) A s H locs) (hf : f_X7_unit_T0 n st = some q) (hR : 2 ≤ R.frames ∧ 46 ≤ R.locals) (hl : ls.size = nL) (hst : (rest.map fun v => v.category).sum ≤ 8) (hd : decode cc pc = .ok (.invokevirtual 122, 3)) (kk : ∀ (H1 : Heap) (locs1 : List Loc), ZG D (wC ad cy q.2) A s H1 locs1 → W p l e R s m args below meth c H1 locs1 0 0 Q (F0 m (pc + 3) ls (.int q.1 :: rest))) : W p l e R s m args below meth c H locs 0 0 Q (F0 m pc ls (.ref (ad 12) :: rest)) :=
  call_V (q := (RX7, TX7, 7)) (n := 0) (As := []) (rv := some (.int q.1)) 12 7 F K E hA Z (c_X7_unit_T0 (l := l) (D := D) (ad := ad) (cy := cy) (ee := ee) hf) ⟨wd250, wd705, wd251, wd252, wd60⟩ (by decide +kernel) rfl rfl hR rfl hl hst hd kk
theorem krX3_119_X3_readHypothesis {n : Nat} {a0 : Int32} {q : (Int32 × StT)} (F : CallFix p m c cc nL s args (cw :: Gw) RX3) (K : va_K D vwCl (tyL cy) s) (E : EV ee A s s.heap) (hA : ∀ q, s.heap.size ≤ q → A q) (Z : ZG D (wC ad cy st) A s H locs) (hf : f_X3_readHypothesis n st a0 = some q) (hR : 3 ≤ R.frames ∧ 69 ≤ R.locals) (hl : ls.size = nL) (hst : (rest.map fun v => v.category).sum ≤ 8) (hd : decode cc pc = .ok (.invokevirtual 119, 3)) (kk : ∀ (H1 : Heap) (locs1 : List Loc), ZG D (wC ad cy q.2) A s H1 locs1 → W p l e R s m args below meth c H1 locs1 0 0 Q (F0 m (pc + 3) ls (.int q.1 :: rest))) : W p l e R s m args below meth c H locs 0 0 Q (F0 m pc ls (.int a0 :: .ref (ad 11) :: rest)) :=
  call_V (q := (RX3, TX3, 6)) (n := 1) (As := [.int a0]) (rv := some (.int q.1)) 11 3 F K E hA Z (c_X3_readHypothesis (l := l) (D := D) (ad := ad) (cy := cy) (ee := ee) hf) ⟨wd707, wd706, wd708, wd709, wd623⟩ (by decide +kernel) rfl rfl hR rfl hl hst hd kk
theorem krX3_131_X7_add_T0 {n : Nat} {a0 : Int32} {a1 : Int32} {a2 : Int32} {a3 : Int32} {a4 : Int32} {q : (Int32 × StT)} (F : CallFix p m c cc nL s args (cw :: Gw) RX3) (K : va_K D vwCl (tyL cy) s) (E : EV ee A s s.heap) (hA : ∀ q, s.heap.size ≤ q → A q) (Z : ZG D (wC ad cy st) A s H locs) (hf : f_X7_add_T0 n st a0 a1 a2 a3 a4 = some q) (hR : 1 ≤ R.frames ∧ 26 ≤ R.locals) (hl : ls.size = nL) (hst : (rest.map fun v => v.category).sum ≤ 8) (hd : decode cc pc = .ok (.invokevirtual 131, 3)) (kk : ∀ (H1 : Heap) (locs1 : List Loc), ZG D (wC ad cy q.2) A s H1 locs1 → W p l e R s m args below meth c H1 locs1 0 0 Q (F0 m (pc + 3) ls (.int q.1 :: rest))) : W p l e R s m args below meth c H locs 0 0 Q (F0 m pc ls (.int a4 :: .int a3 :: .int a2 :: .int a1 :: .int a0 :: .ref (ad 12) :: rest)) :=
  call_V (q := (RX7, TX7, 7)) (n := 5) (As := [.int a0, .int a1, .int a2, .int a3, .int a4]) (rv := some (.int q.1)) 12 7 F K E hA Z (c_X7_add_T0 (l := l) (D := D) (ad := ad) (cy := cy) (ee := ee) hf) ⟨wd57, wd710, wd58, wd59, wd60⟩ (by decide +kernel) rfl rfl hR rfl hl hst hd kk
theorem kroX3_128_X3_readPart {a0 : Int32} {a1 : Int32} {a2 : Int32} {q : (Int32 × StT)} (F : CallFix p m c cc nL s args (cw :: Gw) RX3) (K : va_K D vwCl (tyL cy) s) (E : EV ee A s s.heap) (hA : ∀ q, s.heap.size ≤ q → A q) (Z : ZG D (wC ad cy st) A s H locs) {fr lo : Nat} (hf : CT l yX3_readPart cX3_readPart 4 (some .int) fr lo D cy ee (wC ad cy st) (wC ad cy q.2) [.ref (ad 11), .int a0, .int a1, .int a2] (some (.int q.1))) (hR : fr + 1 ≤ R.frames ∧ 23 + lo ≤ R.locals) (hl : ls.size = nL) (hst : (rest.map fun v => v.category).sum ≤ 8) (hd : decode cc pc = .ok (.invokevirtual 128, 3)) (kk : ∀ (H1 : Heap) (locs1 : List Loc), ZG D (wC ad cy q.2) A s H1 locs1 → W p l e R s m args below meth c H1 locs1 0 0 Q (F0 m (pc + 3) ls (.int q.1 :: rest))) : W p l e R s m args below meth c H locs 0 0 Q (F0 m pc ls (.int a2 :: .int a1 :: .int a0 :: .ref (ad 11) :: rest)) :=
  call_V (q := (RX3, TX3, 6)) (n := 3) (As := [.int a0, .int a1, .int a2]) (rv := some (.int q.1)) 11 3 F K E hA Z (hf) ⟨wd712, wd711, wd713, wd714, wd623⟩ (by decide +kernel) rfl rfl hR rfl hl hst hd kk
theorem kroX3_48_X3_readTerm {a0 : Int32} {q : (Int32 × StT)} (F : CallFix p m c cc nL s args (cw :: Gw) RX3) (K : va_K D vwCl (tyL cy) s) (E : EV ee A s s.heap) (hA : ∀ q, s.heap.size ≤ q → A q) (Z : ZG D (wC ad cy st) A s H locs) {fr lo : Nat} (hf : CT l yX3_readTerm cX3_readTerm 7 (some .int) fr lo D cy ee (wC ad cy st) (wC ad cy q.2) [.ref (ad 11), .int a0] (some (.int q.1))) (hR : fr + 1 ≤ R.frames ∧ 26 + lo ≤ R.locals) (hl : ls.size = nL) (hst : (rest.map fun v => v.category).sum ≤ 8) (hd : decode cc pc = .ok (.invokevirtual 48, 3)) (kk : ∀ (H1 : Heap) (locs1 : List Loc), ZG D (wC ad cy q.2) A s H1 locs1 → W p l e R s m args below meth c H1 locs1 0 0 Q (F0 m (pc + 3) ls (.int q.1 :: rest))) : W p l e R s m args below meth c H locs 0 0 Q (F0 m pc ls (.int a0 :: .ref (ad 11) :: rest)) :=
  call_V (q := (RX3, TX3, 6)) (n := 1) (As := [.int a0]) (rv := some (.int q.1)) 11 3 F K E hA Z (hf) ⟨wd716, wd715, wd717, wd718, wd623⟩ (by decide +kernel) rfl rfl hR rfl hl hst hd kk
theorem krX3_135_X7_binds {n : Nat} {a0 : Int32} {a1 : Int32} {q : (Int32 × StT)} (F : CallFix p m c cc nL s args (cw :: Gw) RX3) (K : va_K D vwCl (tyL cy) s) (E : EV ee A s s.heap) (hA : ∀ q, s.heap.size ≤ q → A q) (Z : ZG D (wC ad cy st) A s H locs) (hf : f_X7_binds n st a0 a1 = some q) (hR : 1 ≤ R.frames ∧ 21 ≤ R.locals) (hl : ls.size = nL) (hst : (rest.map fun v => v.category).sum ≤ 8) (hd : decode cc pc = .ok (.invokestatic 135, 3)) (kk : ∀ (H1 : Heap) (locs1 : List Loc), ZG D (wC ad cy q.2) A s H1 locs1 → W p l e R s m args below meth c H1 locs1 0 0 Q (F0 m (pc + 3) ls (.int q.1 :: rest))) : W p l e R s m args below meth c H locs 0 0 Q (F0 m pc ls (.int a1 :: .int a0 :: rest)) :=
  call_S (n := 2) (As := [.int a0, .int a1]) (rv := some (.int q.1)) F K E hA Z (c_X7_binds (l := l) (D := D) (ad := ad) (cy := cy) (ee := ee) hf) ⟨wd587, wd719, wd588, wd60⟩ (by decide +kernel) hR rfl hl hst hd kk
end
set_option maxRecDepth 100000 in
set_option maxHeartbeats 4000000 in
theorem b_X3_readTerm_92 {p : Program} {l : Launch} {e : Env} {s : State} {m : MethodId} {args : Array Value} {below : List Frame} {meth : Method} {c : Code} {D : va_G} {A : Nat → Prop} {ad : Nat → Nat} {cy : Nat → ClassId} {ee : EE} {n : Nat} {res : (Int32 × StT)} (F : CallFix p m c cX3_readTerm 7 s args (Cond.code yX3_readTerm cX3_readTerm 7 (some .int) :: Gw) yX3_readTerm.cls) (hr : meth.sig.returnType = (some .int)) (hk : meth.locks = false) (K : va_K D vwCl (tyL cy) s) (E : EV ee A s s.heap) (hA : ∀ q, s.heap.size ≤ q → A q) {frr lor : Nat} (hfr : 269 ≤ frr) (hlo : 6700 ≤ lor) {r_X3_readTerm : StT → Int32 → Option (Int32 × StT)} (hr_X3_readTerm : ∀ (st : StT) (x1 : Int32) (res : (Int32 × StT)), r_X3_readTerm st x1 = some res → CT l yX3_readTerm cX3_readTerm 7 (some .int) frr lor D cy ee (wC ad cy st) (wC ad cy res.2) [.ref (ad 11), .int x1] (some (.int res.1))) {r_X3_readPart : StT → Int32 → Int32 → Int32 → Option (Int32 × StT)} (hr_X3_readPart : ∀ (st : StT) (x1 : Int32) (x2 : Int32) (x3 : Int32) (res : (Int32 × StT)), r_X3_readPart st x1 x2 x3 = some res → CT l yX3_readPart cX3_readPart 4 (some .int) frr lor D cy ee (wC ad cy st) (wC ad cy res.2) [.ref (ad 11), .int x1, .int x2, .int x3] (some (.int res.1))) : ∀ (st : StT) (x1 : Int32) (x2 : Int32) (x3 : Int32), f_X3_readTerm_92 n r_X3_readTerm r_X3_readPart st x1 x2 x3 = some res → ∀ (H : Heap) (locs : List Loc) (ls : Array Slot), ZG D (wC ad cy st) A s H locs → lv_has ls 7 [(0, .ref (ad 11)), (1, .int x1), (2, .int x2), (3, .int x3)] → W p l e { frames := frr + 1, cells := 0, slots := 0, locals := lor + 26 } s m args below meth c H locs 0 0 (MQ below (QC D (some (.int res.1)) (wC ad cy res.2) A) args s 0 0 A) (F0 m 92 ls []) := by
  have hx := F.1
  have hb := F.2.1
  intro st x1 x2 x3 hf H locs ls Z hl
  unfold f_X3_readTerm_92 at hf
  refine lv_aload_n hx hb dX3_readTerm_92 rfl (lv_at hl 0 rfl) ?_
  refine lv_iload_n hx hb dX3_readTerm_93 rfl (lv_at hl 2 rfl) ?_
  refine lv_iconst (v := 0) hx hb dX3_readTerm_94 (by decide) ?_
  refine lv_iload_n hx hb dX3_readTerm_95 rfl (lv_at hl 1 rfl) ?_
  obtain ⟨q96, h96, hf⟩ := bind_some hf
  refine kroX3_128_X3_readPart F K E hA Z (hr_X3_readPart _ _ _ _ _ h96) ⟨by show frr + 1 ≤ frr + 1; omega, by show 23 + lor ≤ lor + 26; omega⟩ hl.1 (Nat.le_of_ble_eq_true rfl) dX3_readTerm_96 (fun H locs Z => ?_)
  refine lv_istore (lv' := [(4, .int q96.1), (0, .ref (ad 11)), (1, .int x1), (2, .int x2), (3, .int x3)]) hx hb dX3_readTerm_99 hl (by decide) rfl (fun ls hl => ?_)
  refine lv_aload_n hx hb dX3_readTerm_101 rfl (lv_at hl 1 rfl) ?_
  refine lv_iload_n hx hb dX3_readTerm_102 rfl (lv_at hl 3 rfl) ?_
  refine lv_iconst (v := 1) hx hb dX3_readTerm_103 (by decide) ?_
  refine lv_iload_n hx hb dX3_readTerm_104 rfl (lv_at hl 2 rfl) ?_
  obtain ⟨q105, h105, hf⟩ := bind_some hf
  refine kroX3_128_X3_readPart F K E hA Z (hr_X3_readPart _ _ _ _ _ h105) ⟨by show frr + 1 ≤ frr + 1; omega, by show 23 + lor ≤ lor + 26; omega⟩ hl.1 (Nat.le_of_ble_eq_true rfl) dX3_readTerm_105 (fun H locs Z => ?_)
  refine lv_istore (lv' := [(5, .int q105.1), (4, .int q96.1), (0, .ref (ad 11)), (1, .int x1), (2, .int x2), (3, .int x3)]) hx hb dX3_readTerm_108 hl (by decide) rfl (fun ls hl => ?_)
  refine lv_aload_n hx hb dX3_readTerm_110 rfl (lv_at hl 2 rfl) ?_
  refine lv_iload_n hx hb dX3_readTerm_111 rfl (lv_at hl 4 rfl) ?_
  refine lv_iconst (v := 2) hx hb dX3_readTerm_112 (by decide) ?_
  refine lv_iload_n hx hb dX3_readTerm_113 rfl (lv_at hl 3 rfl) ?_
  obtain ⟨q114, h114, hf⟩ := bind_some hf
  refine kroX3_128_X3_readPart F K E hA Z (hr_X3_readPart _ _ _ _ _ h114) ⟨by show frr + 1 ≤ frr + 1; omega, by show 23 + lor ≤ lor + 26; omega⟩ hl.1 (Nat.le_of_ble_eq_true rfl) dX3_readTerm_114 (fun H locs Z => ?_)
  refine lv_istore (lv' := [(6, .int q114.1), (5, .int q105.1), (4, .int q96.1), (0, .ref (ad 11)), (1, .int x1), (2, .int x2), (3, .int x3)]) hx hb dX3_readTerm_117 hl (by decide) rfl (fun ls hl => ?_)
  refine lv_aload_n hx hb dX3_readTerm_119 rfl (lv_at hl 3 rfl) ?_
  refine lv_bipush (v := 41) hx hb dX3_readTerm_120 (by decide) ?_
  obtain ⟨q122, h122, hf⟩ := bind_some hf
  refine krX3_42_X3_expect F K E hA Z h122 ⟨by show 8 ≤ frr + 1; omega, by show 175 ≤ lor + 26; omega⟩ hl.1 (Nat.le_of_ble_eq_true rfl) dX3_readTerm_122 (fun H locs Z => ?_)
  refine lv_aload_n hx hb dX3_readTerm_125 rfl (lv_at hl 3 rfl) ?_
  refine lv_dup hx hb dX3_readTerm_126 rfl ?_
  refine grX3_53_11 F K Z dX3_readTerm_127 ?_
  refine lv_iconst (v := 1) hx hb dX3_readTerm_130 (by decide) ?_
  refine lv_isub hx hb dX3_readTerm_131 ?_
  refine prX3_53_11 F K Z dX3_readTerm_132 (fun H locs Z => ?_)
  refine lv_aload_n hx hb dX3_readTerm_135 rfl (lv_at hl 3 rfl) ?_
  refine grX3_14_11 F K Z dX3_readTerm_136 ?_
  refine lv_iload_n hx hb dX3_readTerm_139 rfl (lv_at hl 5 rfl) ?_
  refine lv_iload hx hb dX3_readTerm_140 (lv_at hl 2 rfl) ?_
  refine lv_iload_n hx hb dX3_readTerm_142 rfl (lv_at hl 5 rfl) ?_
  refine lv_bipush (v := 76) hx hb dX3_readTerm_143 (by decide) ?_
  refine lv_icmp_ne (tgt := 152) hx hb dX3_readTerm_145 (by decide) (fun c145 => ?_) (fun c145 => ?_)
  · have hf := if_f c145 hf
    refine lv_iload hx hb dX3_readTerm_152 (lv_at hl 1 rfl) ?_
    refine lv_iload hx hb dX3_readTerm_154 (lv_at hl 0 rfl) ?_
    refine lv_iconst (v := -1) hx hb dX3_readTerm_156 (by decide) ?_
    obtain ⟨q157, h157, hf⟩ := bind_some hf
    refine krX3_131_X7_add_T0 F K E hA Z h157 ⟨by show 1 ≤ frr + 1; omega, by show 26 ≤ lor + 26; omega⟩ hl.1 (Nat.le_of_ble_eq_true rfl) dX3_readTerm_157 (fun H locs Z => ?_)
    have hf := Option.some.inj hf
    subst hf
    exact ret_i F hr hk Z dX3_readTerm_160
  have hf := if_t c145 hf
  refine lv_iload_n hx hb dX3_readTerm_148 rfl (lv_at hl 6 rfl) ?_
  refine lv_goto (tgt := 154) hx hb dX3_readTerm_149 (by decide) ?_
  refine lv_iload hx hb dX3_readTerm_154 (lv_at hl 0 rfl) ?_
  refine lv_iconst (v := -1) hx hb dX3_readTerm_156 (by decide) ?_
  obtain ⟨q157, h157, hf⟩ := bind_some hf
  refine krX3_131_X7_add_T0 F K E hA Z h157 ⟨by show 1 ≤ frr + 1; omega, by show 26 ≤ lor + 26; omega⟩ hl.1 (Nat.le_of_ble_eq_true rfl) dX3_readTerm_157 (fun H locs Z => ?_)
  have hf := Option.some.inj hf
  subst hf
  exact ret_i F hr hk Z dX3_readTerm_160
set_option maxRecDepth 100000 in
set_option maxHeartbeats 4000000 in
theorem o_X3_readTerm {l : Launch} {D : va_G} {ad : Nat → Nat} {cy : Nat → ClassId} {ee : EE} {n : Nat} {frr lor : Nat} (hfr : 269 ≤ frr) (hlo : 6700 ≤ lor) {r_X3_readTerm : StT → Int32 → Option (Int32 × StT)} (hr_X3_readTerm : ∀ (st : StT) (x1 : Int32) (res : (Int32 × StT)), r_X3_readTerm st x1 = some res → CT l yX3_readTerm cX3_readTerm 7 (some .int) frr lor D cy ee (wC ad cy st) (wC ad cy res.2) [.ref (ad 11), .int x1] (some (.int res.1))) {r_X3_readPart : StT → Int32 → Int32 → Int32 → Option (Int32 × StT)} (hr_X3_readPart : ∀ (st : StT) (x1 : Int32) (x2 : Int32) (x3 : Int32) (res : (Int32 × StT)), r_X3_readPart st x1 x2 x3 = some res → CT l yX3_readPart cX3_readPart 4 (some .int) frr lor D cy ee (wC ad cy st) (wC ad cy res.2) [.ref (ad 11), .int x1, .int x2, .int x3] (some (.int res.1))) {st : StT} {x1 : Int32} {res : (Int32 × StT)} (hf : g_X3_readTerm n r_X3_readTerm r_X3_readPart st x1 = some res) : CT l yX3_readTerm cX3_readTerm 7 (some .int) (frr + 1) (lor + 26) D cy ee (wC ad cy st) (wC ad cy res.2) [.ref (ad 11), .int x1] (some (.int res.1)) := by
  refine CT.of (by decide +kernel) (Nat.le_of_ble_eq_true rfl) ?_
  intro p e s m args below meth c A F hr hk K E hA Z ls hl
  have hl : lv_has ls 7 [(0, .ref (ad 11)), (1, .int x1)] := hl
  have hx := F.1
  have hb := F.2.1
  unfold g_X3_readTerm at hf
  refine lv_aload_n hx hb dX3_readTerm_0 rfl (lv_at hl 0 rfl) ?_
  obtain ⟨q1, h1, hf⟩ := bind_some hf
  refine krX3_69_X3_look F K E hA Z h1 ⟨by show 7 ≤ frr + 1; omega, by show 154 ≤ lor + 26; omega⟩ hl.1 (Nat.le_of_ble_eq_true rfl) dX3_readTerm_1 (fun H locs Z => ?_)
  refine lv_istore_n (lv' := [(2, .int q1.1), (0, .ref (ad 11)), (1, .int x1)]) hx hb dX3_readTerm_4 rfl hl (by decide) rfl (fun ls hl => ?_)
  refine lv_iload_n hx hb dX3_readTerm_5 rfl (lv_at hl 0 rfl) ?_
  refine lv_bipush (v := 110) hx hb dX3_readTerm_6 (by decide) ?_
  refine lv_icmp_ne (tgt := 17) hx hb dX3_readTerm_8 (by decide) (fun c8 => ?_) (fun c8 => ?_)
  · have hf := if_f c8 hf
    refine lv_iload_n hx hb dX3_readTerm_17 rfl (lv_at hl 0 rfl) ?_
    refine lv_bipush (v := 84) hx hb dX3_readTerm_18 (by decide) ?_
    refine lv_icmp_ne (tgt := 38) hx hb dX3_readTerm_20 (by decide) (fun c20 => ?_) (fun c20 => ?_)
    · have hf := if_f c20 hf
      refine lv_iload_n hx hb dX3_readTerm_38 rfl (lv_at hl 0 rfl) ?_
      obtain ⟨q39, h39, hf⟩ := bind_some hf
      refine krX3_125_X7_partsOf F K E hA Z h39 ⟨by show 1 ≤ frr + 1; omega, by show 20 ≤ lor + 26; omega⟩ hl.1 (Nat.le_of_ble_eq_true rfl) dX3_readTerm_39 (fun H locs Z => ?_)
      refine lv_if_ne (tgt := 58) hx hb dX3_readTerm_42 (by decide) (fun c42 => ?_) (fun c42 => ?_)
      · have hf := if_f c42 hf
        refine lv_aload_n hx hb dX3_readTerm_58 rfl (lv_at hl 1 rfl) ?_
        obtain ⟨q59, h59, hf⟩ := bind_some hf
        refine krX3_82_X3_opens F K E hA Z h59 ⟨by show 2 ≤ frr + 1; omega, by show 42 ≤ lor + 26; omega⟩ hl.1 (Nat.le_of_ble_eq_true rfl) dX3_readTerm_59 (fun H locs Z => ?_)
        refine lv_if_ne (tgt := 67) hx hb dX3_readTerm_62 (by decide) (fun c62 => ?_) (fun c62 => ?_)
        · have hf := if_f c62 hf
          refine lv_aload_n hx hb dX3_readTerm_67 rfl (lv_at hl 1 rfl) ?_
          refine lv_bipush (v := 40) hx hb dX3_readTerm_68 (by decide) ?_
          obtain ⟨q70, h70, hf⟩ := bind_some hf
          refine krX3_42_X3_expect F K E hA Z h70 ⟨by show 8 ≤ frr + 1; omega, by show 175 ≤ lor + 26; omega⟩ hl.1 (Nat.le_of_ble_eq_true rfl) dX3_readTerm_70 (fun H locs Z => ?_)
          refine lv_iconst (v := 0) hx hb dX3_readTerm_73 (by decide) ?_
          refine lv_istore_n (lv' := [(3, .int (0 : Int32)), (2, .int q1.1), (0, .ref (ad 11)), (1, .int x1)]) hx hb dX3_readTerm_74 rfl hl (by decide) rfl (fun ls hl => ?_)
          refine lv_iload_n hx hb dX3_readTerm_75 rfl (lv_at hl 1 rfl) ?_
          refine lv_bipush (v := 76) hx hb dX3_readTerm_76 (by decide) ?_
          refine lv_icmp_ne (tgt := 92) hx hb dX3_readTerm_78 (by decide) (fun c78 => ?_) (fun c78 => ?_)
          · have hf := if_f c78 hf
            exact b_X3_readTerm_92 F hr hk K E hA hfr hlo hr_X3_readTerm hr_X3_readPart _ _ _ _ hf _ _ _ Z (lv_sub hl [2, 3, 1, 0] rfl)
          have hf := if_t c78 hf
          refine lv_aload_n hx hb dX3_readTerm_81 rfl (lv_at hl 2 rfl) ?_
          obtain ⟨q82, h82, hf⟩ := bind_some hf
          refine krX3_36_X3_readBothWays F K E hA Z h82 ⟨by show 269 ≤ frr + 1; omega, by show 6700 ≤ lor + 26; omega⟩ hl.1 (Nat.le_of_ble_eq_true rfl) dX3_readTerm_82 (fun H locs Z => ?_)
          refine lv_istore_n (lv' := [(3, .int q82.1), (2, .int q1.1), (0, .ref (ad 11)), (1, .int x1)]) hx hb dX3_readTerm_85 rfl hl (by decide) rfl (fun ls hl => ?_)
          refine lv_aload_n hx hb dX3_readTerm_86 rfl (lv_at hl 2 rfl) ?_
          refine lv_bipush (v := 44) hx hb dX3_readTerm_87 (by decide) ?_
          obtain ⟨q89, h89, hf⟩ := bind_some hf
          refine krX3_42_X3_expect F K E hA Z h89 ⟨by show 8 ≤ frr + 1; omega, by show 175 ≤ lor + 26; omega⟩ hl.1 (Nat.le_of_ble_eq_true rfl) dX3_readTerm_89 (fun H locs Z => ?_)
          exact b_X3_readTerm_92 F hr hk K E hA hfr hlo hr_X3_readTerm hr_X3_readPart _ _ _ _ hf _ _ _ Z (lv_sub hl [2, 3, 1, 0] rfl)
        have hf := if_t c62 hf
        refine lv_iconst (v := -1) hx hb dX3_readTerm_65 (by decide) ?_
        have hf := Option.some.inj hf
        subst hf
        exact ret_i F hr hk Z dX3_readTerm_66
      have hf := if_t c42 hf
      refine lv_aload_n hx hb dX3_readTerm_45 rfl (lv_at hl 1 rfl) ?_
      refine lv_iconst (v := 2) hx hb dX3_readTerm_46 (by decide) ?_
      refine lv_aload_n hx hb dX3_readTerm_47 rfl (lv_at hl 1 rfl) ?_
      refine grX3_24_11 F K Z dX3_readTerm_48 ?_
      obtain ⟨q51, h51, hf⟩ := bind_some hf
      refine krX3_62_X8_start F K E hA Z h51 ⟨by show 1 ≤ frr + 1; omega, by show 20 ≤ lor + 26; omega⟩ hl.1 (Nat.le_of_ble_eq_true rfl) dX3_readTerm_51 (fun H locs Z => ?_)
      obtain ⟨q54, h54, hf⟩ := bind_some hf
      refine krX3_65_X3_fail F K E hA Z h54 ⟨by show 1 ≤ frr + 1; omega, by show 22 ≤ lor + 26; omega⟩ hl.1 (Nat.le_of_ble_eq_true rfl) dX3_readTerm_54 (fun H locs Z => ?_)
      have hf := Option.some.inj hf
      subst hf
      exact ret_i F hr hk Z dX3_readTerm_57
    have hf := if_t c20 hf
    refine lv_aload_n hx hb dX3_readTerm_23 rfl (lv_at hl 1 rfl) ?_
    refine grX3_24_11 F K Z dX3_readTerm_24 ?_
    obtain ⟨q27, h27, hf⟩ := bind_some hf
    refine krX3_70_X8_take F K E hA Z h27 ⟨by show 1 ≤ frr + 1; omega, by show 20 ≤ lor + 26; omega⟩ hl.1 (Nat.le_of_ble_eq_true rfl) dX3_readTerm_27 (fun H locs Z => ?_)
    refine lv_aload_n hx hb dX3_readTerm_30 rfl (lv_at hl 1 rfl) ?_
    refine grX3_14_11 F K Z dX3_readTerm_31 ?_
    obtain ⟨q34, h34, hf⟩ := bind_some hf
    refine krX3_122_X7_unit_T0 F K E hA Z h34 ⟨by show 2 ≤ frr + 1; omega, by show 46 ≤ lor + 26; omega⟩ hl.1 (Nat.le_of_ble_eq_true rfl) dX3_readTerm_34 (fun H locs Z => ?_)
    have hf := Option.some.inj hf
    subst hf
    exact ret_i F hr hk Z dX3_readTerm_37
  have hf := if_t c8 hf
  refine lv_aload_n hx hb dX3_readTerm_11 rfl (lv_at hl 1 rfl) ?_
  refine lv_iload_n hx hb dX3_readTerm_12 rfl (lv_at hl 2 rfl) ?_
  obtain ⟨q13, h13, hf⟩ := bind_some hf
  refine krX3_119_X3_readHypothesis F K E hA Z h13 ⟨by show 3 ≤ frr + 1; omega, by show 69 ≤ lor + 26; omega⟩ hl.1 (Nat.le_of_ble_eq_true rfl) dX3_readTerm_13 (fun H locs Z => ?_)
  have hf := Option.some.inj hf
  subst hf
  exact ret_i F hr hk Z dX3_readTerm_16
set_option maxRecDepth 100000 in
set_option maxHeartbeats 4000000 in
theorem b_X3_readPart_20 {p : Program} {l : Launch} {e : Env} {s : State} {m : MethodId} {args : Array Value} {below : List Frame} {meth : Method} {c : Code} {D : va_G} {A : Nat → Prop} {ad : Nat → Nat} {cy : Nat → ClassId} {ee : EE} {n : Nat} {res : (Int32 × StT)} (F : CallFix p m c cX3_readPart 4 s args (Cond.code yX3_readPart cX3_readPart 4 (some .int) :: Gw) yX3_readPart.cls) (hr : meth.sig.returnType = (some .int)) (hk : meth.locks = false) (K : va_K D vwCl (tyL cy) s) (E : EV ee A s s.heap) (hA : ∀ q, s.heap.size ≤ q → A q) {frr lor : Nat} (hfr : 269 ≤ frr) (hlo : 6700 ≤ lor) {r_X3_readTerm : StT → Int32 → Option (Int32 × StT)} (hr_X3_readTerm : ∀ (st : StT) (x1 : Int32) (res : (Int32 × StT)), r_X3_readTerm st x1 = some res → CT l yX3_readTerm cX3_readTerm 7 (some .int) frr lor D cy ee (wC ad cy st) (wC ad cy res.2) [.ref (ad 11), .int x1] (some (.int res.1))) {r_X3_readPart : StT → Int32 → Int32 → Int32 → Option (Int32 × StT)} (hr_X3_readPart : ∀ (st : StT) (x1 : Int32) (x2 : Int32) (x3 : Int32) (res : (Int32 × StT)), r_X3_readPart st x1 x2 x3 = some res → CT l yX3_readPart cX3_readPart 4 (some .int) frr lor D cy ee (wC ad cy st) (wC ad cy res.2) [.ref (ad 11), .int x1, .int x2, .int x3] (some (.int res.1))) : ∀ (st : StT) (x1 : Int32) (x2 : Int32) (x3 : Int32), f_X3_readPart_20 n r_X3_readTerm r_X3_readPart st x1 x2 x3 = some res → ∀ (H : Heap) (locs : List Loc) (ls : Array Slot), ZG D (wC ad cy st) A s H locs → lv_has ls 4 [(0, .ref (ad 11)), (1, .int x1), (2, .int x2), (3, .int x3)] → W p l e { frames := frr + 1, cells := 0, slots := 0, locals := lor + 26 } s m args below meth c H locs 0 0 (MQ below (QC D (some (.int res.1)) (wC ad cy res.2) A) args s 0 0 A) (F0 m 20 ls []) := by
  have hx := F.1
  have hb := F.2.1
  intro st x1 x2 x3 hf H locs ls Z hl
  unfold f_X3_readPart_20 at hf
  refine lv_aload_n hx hb dX3_readPart_20 rfl (lv_at hl 0 rfl) ?_
  refine lv_iload_n hx hb dX3_readPart_21 rfl (lv_at hl 1 rfl) ?_
  refine lv_iload_n hx hb dX3_readPart_22 rfl (lv_at hl 2 rfl) ?_
  obtain ⟨q23, h23, hf⟩ := bind_some hf
  refine krX3_135_X7_binds F K E hA Z h23 ⟨by show 1 ≤ frr + 1; omega, by show 21 ≤ lor + 26; omega⟩ hl.1 (Nat.le_of_ble_eq_true rfl) dX3_readPart_23 (fun H locs Z => ?_)
  refine lv_if_eq (tgt := 35) hx hb dX3_readPart_26 (by decide) (fun c26 => ?_) (fun c26 => ?_)
  · have hf := if_t c26 hf
    refine lv_iload_n hx hb dX3_readPart_35 rfl (lv_at hl 3 rfl) ?_
    obtain ⟨q36, h36, hf⟩ := bind_some hf
    refine kroX3_48_X3_readTerm F K E hA Z (hr_X3_readTerm _ _ _ h36) ⟨by show frr + 1 ≤ frr + 1; omega, by show 26 + lor ≤ lor + 26; omega⟩ hl.1 (Nat.le_of_ble_eq_true rfl) dX3_readPart_36 (fun H locs Z => ?_)
    have hf := Option.some.inj hf
    subst hf
    exact ret_i F hr hk Z dX3_readPart_39
  have hf := if_f c26 hf
  refine lv_iload_n hx hb dX3_readPart_29 rfl (lv_at hl 3 rfl) ?_
  refine lv_iconst (v := 1) hx hb dX3_readPart_30 (by decide) ?_
  refine lv_iadd hx hb dX3_readPart_31 ?_
  refine lv_goto (tgt := 36) hx hb dX3_readPart_32 (by decide) ?_
  obtain ⟨q36, h36, hf⟩ := bind_some hf
  refine kroX3_48_X3_readTerm F K E hA Z (hr_X3_readTerm _ _ _ h36) ⟨by show frr + 1 ≤ frr + 1; omega, by show 26 + lor ≤ lor + 26; omega⟩ hl.1 (Nat.le_of_ble_eq_true rfl) dX3_readPart_36 (fun H locs Z => ?_)
  have hf := Option.some.inj hf
  subst hf
  exact ret_i F hr hk Z dX3_readPart_39
set_option maxRecDepth 100000 in
set_option maxHeartbeats 4000000 in
theorem o_X3_readPart {l : Launch} {D : va_G} {ad : Nat → Nat} {cy : Nat → ClassId} {ee : EE} {n : Nat} {frr lor : Nat} (hfr : 269 ≤ frr) (hlo : 6700 ≤ lor) {r_X3_readTerm : StT → Int32 → Option (Int32 × StT)} (hr_X3_readTerm : ∀ (st : StT) (x1 : Int32) (res : (Int32 × StT)), r_X3_readTerm st x1 = some res → CT l yX3_readTerm cX3_readTerm 7 (some .int) frr lor D cy ee (wC ad cy st) (wC ad cy res.2) [.ref (ad 11), .int x1] (some (.int res.1))) {r_X3_readPart : StT → Int32 → Int32 → Int32 → Option (Int32 × StT)} (hr_X3_readPart : ∀ (st : StT) (x1 : Int32) (x2 : Int32) (x3 : Int32) (res : (Int32 × StT)), r_X3_readPart st x1 x2 x3 = some res → CT l yX3_readPart cX3_readPart 4 (some .int) frr lor D cy ee (wC ad cy st) (wC ad cy res.2) [.ref (ad 11), .int x1, .int x2, .int x3] (some (.int res.1))) {st : StT} {x1 : Int32} {x2 : Int32} {x3 : Int32} {res : (Int32 × StT)} (hf : g_X3_readPart n r_X3_readTerm r_X3_readPart st x1 x2 x3 = some res) : CT l yX3_readPart cX3_readPart 4 (some .int) (frr + 1) (lor + 26) D cy ee (wC ad cy st) (wC ad cy res.2) [.ref (ad 11), .int x1, .int x2, .int x3] (some (.int res.1)) := by
  refine CT.of (by decide +kernel) (Nat.le_of_ble_eq_true rfl) ?_
  intro p e s m args below meth c A F hr hk K E hA Z ls hl
  have hl : lv_has ls 4 [(0, .ref (ad 11)), (1, .int x1), (2, .int x2), (3, .int x3)] := hl
  have hx := F.1
  have hb := F.2.1
  unfold g_X3_readPart at hf
  refine lv_iload_n hx hb dX3_readPart_0 rfl (lv_at hl 2 rfl) ?_
  refine lv_iload_n hx hb dX3_readPart_1 rfl (lv_at hl 1 rfl) ?_
  obtain ⟨q2, h2, hf⟩ := bind_some hf
  refine krX3_125_X7_partsOf F K E hA Z h2 ⟨by show 1 ≤ frr + 1; omega, by show 20 ≤ lor + 26; omega⟩ hl.1 (Nat.le_of_ble_eq_true rfl) dX3_readPart_2 (fun H locs Z => ?_)
  refine lv_icmp_lt (tgt := 10) hx hb dX3_readPart_5 (by decide) (fun c5 => ?_) (fun c5 => ?_)
  · have hf := if_t c5 hf
    refine lv_iload_n hx hb dX3_readPart_10 rfl (lv_at hl 2 rfl) ?_
    refine lv_if_le (tgt := 20) hx hb dX3_readPart_11 (by decide) (fun c11 => ?_) (fun c11 => ?_)
    · have hf := if_t c11 hf
      exact b_X3_readPart_20 F hr hk K E hA hfr hlo hr_X3_readTerm hr_X3_readPart _ _ _ _ hf _ _ _ Z hl
    have hf := if_f c11 hf
    refine lv_aload_n hx hb dX3_readPart_14 rfl (lv_at hl 0 rfl) ?_
    refine lv_bipush (v := 44) hx hb dX3_readPart_15 (by decide) ?_
    obtain ⟨q17, h17, hf⟩ := bind_some hf
    refine krX3_42_X3_expect F K E hA Z h17 ⟨by show 8 ≤ frr + 1; omega, by show 175 ≤ lor + 26; omega⟩ hl.1 (Nat.le_of_ble_eq_true rfl) dX3_readPart_17 (fun H locs Z => ?_)
    exact b_X3_readPart_20 F hr hk K E hA hfr hlo hr_X3_readTerm hr_X3_readPart _ _ _ _ hf _ _ _ Z hl
  have hf := if_f c5 hf
  refine lv_iconst (v := 0) hx hb dX3_readPart_8 (by decide) ?_
  have hf := Option.some.inj hf
  subst hf
  exact ret_i F hr hk Z dX3_readPart_9
def rec_RT (n : Nat) : Nat → (StT → Int32 → Option (Int32 × StT)) × (StT → Int32 → Int32 → Int32 → Option (Int32 × StT))
  | 0 => ((fun _ _ => none), (fun _ _ _ _ => none))
  | d + 1 => ((fun st x1 => g_X3_readTerm n (rec_RT n d).1 (rec_RT n d).2 st x1), (fun st x1 x2 x3 => g_X3_readPart n (rec_RT n d).1 (rec_RT n d).2 st x1 x2 x3))
theorem rec_RT_ok {l : Launch} {D : va_G} {ad : Nat → Nat} {cy : Nat → ClassId} {ee : EE} {n : Nat} : ∀ d : Nat, (∀ (st : StT) (x1 : Int32) (res : (Int32 × StT)), (rec_RT n d).1 st x1 = some res → CT l yX3_readTerm cX3_readTerm 7 (some .int) (269 + d) (6700 + 26 * d) D cy ee (wC ad cy st) (wC ad cy res.2) [.ref (ad 11), .int x1] (some (.int res.1))) ∧ (∀ (st : StT) (x1 : Int32) (x2 : Int32) (x3 : Int32) (res : (Int32 × StT)), (rec_RT n d).2 st x1 x2 x3 = some res → CT l yX3_readPart cX3_readPart 4 (some .int) (269 + d) (6700 + 26 * d) D cy ee (wC ad cy st) (wC ad cy res.2) [.ref (ad 11), .int x1, .int x2, .int x3] (some (.int res.1))) := by
  intro d
  induction d with
  | zero =>
    refine ⟨?_, ?_⟩ <;> (intros; rename_i h; cases h)
  | succ d ih =>
    obtain ⟨ih0, ih1⟩ := ih
    refine ⟨?_, ?_⟩
    · intro st x1 res hf
      exact o_X3_readTerm (frr := 269 + d) (lor := 6700 + 26 * d) (by omega) (by omega) ih0 ih1 hf
    · intro st x1 x2 x3 res hf
      exact o_X3_readPart (frr := 269 + d) (lor := 6700 + 26 * d) (by omega) (by omega) ih0 ih1 hf
def f_X3_readTerm (n : Nat) (st : StT) (x1 : Int32) : Option (Int32 × StT) := (rec_RT n 130).1 st x1
theorem c_X3_readTerm {l : Launch} {D : va_G} {ad : Nat → Nat} {cy : Nat → ClassId} {ee : EE} {n : Nat} {st : StT} {x1 : Int32} {res : (Int32 × StT)} (hf : f_X3_readTerm n st x1 = some res) : CT l yX3_readTerm cX3_readTerm 7 (some .int) 399 10080 D cy ee (wC ad cy st) (wC ad cy res.2) [.ref (ad 11), .int x1] (some (.int res.1)) := (rec_RT_ok 130).1 st x1 res hf
def f_X3_readPart (n : Nat) (st : StT) (x1 : Int32) (x2 : Int32) (x3 : Int32) : Option (Int32 × StT) := (rec_RT n 130).2 st x1 x2 x3
theorem c_X3_readPart {l : Launch} {D : va_G} {ad : Nat → Nat} {cy : Nat → ClassId} {ee : EE} {n : Nat} {st : StT} {x1 : Int32} {x2 : Int32} {x3 : Int32} {res : (Int32 × StT)} (hf : f_X3_readPart n st x1 x2 x3 = some res) : CT l yX3_readPart cX3_readPart 4 (some .int) 399 10080 D cy ee (wC ad cy st) (wC ad cy res.2) [.ref (ad 11), .int x1, .int x2, .int x3] (some (.int res.1)) := (rec_RT_ok 130).2 st x1 x2 x3 res hf
def f_X3_begin (n : Nat) (st : StT) (x1 : Int32) : Option StT := (f_X8_begin n st x1).bind fun q5 => (some (uF (uF (uF q5 9 (0 : Int32)) 10 (0 : Int32)) 11 (-1 : Int32)))
theorem wd720 : Cond.methodLink RX3 52 yX8_begin ∈ Gw := gT2 (List.mem_of_getElem? (i := 191) rfl) rfl
theorem wd721 : Cond.code yX8_begin prog_10_method_5_code 2 none ∈ Gw := gT2 (List.mem_of_getElem? (i := 194) rfl) rfl
theorem wd722 : Cond.instanceMethod yX8_begin ∈ Gw := gT2 (List.mem_of_getElem? (i := 192) rfl) rfl
theorem wd723 : Cond.selects RX8 yX8_begin yX8_begin ∈ Gw := gT2 (List.mem_of_getElem? (i := 193) rfl) rfl
section
variable {p : Program} {l : Launch} {e : Env} {R : Room} {s : State} {m : MethodId} {args : Array Value} {below : List Frame} {meth : Method} {c : Code} {H : Heap} {locs : List Loc} {Q : State → Prop}
variable {cc : ByteArray} {nL pc : Nat} {ls : Array Slot} {rest : List Value} {D : va_G} {A : Nat → Prop} {cw : Cond} {ad : Nat → Nat} {cy : Nat → ClassId} {ee : EE} {st : StT} {own : String}
theorem krX3_52_X8_begin {n : Nat} {a0 : Int32} {q : StT} (F : CallFix p m c cc nL s args (cw :: Gw) RX3) (K : va_K D vwCl (tyL cy) s) (E : EV ee A s s.heap) (hA : ∀ q, s.heap.size ≤ q → A q) (Z : ZG D (wC ad cy st) A s H locs) (hf : f_X8_begin n st a0 = some q) (hR : 1 ≤ R.frames ∧ 21 ≤ R.locals) (hl : ls.size = nL) (hst : (rest.map fun v => v.category).sum ≤ 8) (hd : decode cc pc = .ok (.invokevirtual 52, 3)) (kk : ∀ (H1 : Heap) (locs1 : List Loc), ZG D (wC ad cy q) A s H1 locs1 → W p l e R s m args below meth c H1 locs1 0 0 Q (F0 m (pc + 3) ls (rest))) : W p l e R s m args below meth c H locs 0 0 Q (F0 m pc ls (.int a0 :: .ref (ad 2) :: rest)) :=
  call_V (q := (RX8, TX8, 8)) (n := 1) (As := [.int a0]) (rv := none) 2 8 F K E hA Z (c_X8_begin (l := l) (D := D) (ad := ad) (cy := cy) (ee := ee) hf) ⟨wd721, wd720, wd722, wd723, wd472⟩ (by decide +kernel) rfl rfl hR rfl hl hst hd kk
end
set_option maxRecDepth 100000 in
set_option maxHeartbeats 4000000 in
theorem c_X3_begin {l : Launch} {D : va_G} {ad : Nat → Nat} {cy : Nat → ClassId} {ee : EE} {n : Nat} {st : StT} {x1 : Int32} {res : StT} (hf : f_X3_begin n st x1 = some res) : CT l yX3_begin cX3_begin 2 none 1 21 D cy ee (wC ad cy st) (wC ad cy res) [.ref (ad 11), .int x1] (none) := by
  refine CT.of (by decide +kernel) (Nat.le_of_ble_eq_true rfl) ?_
  intro p e s m args below meth c A F hr hk K E hA Z ls hl
  have hl : lv_has ls 2 [(0, .ref (ad 11)), (1, .int x1)] := hl
  have hx := F.1
  have hb := F.2.1
  unfold f_X3_begin at hf
  refine lv_aload_n hx hb dX3_begin_0 rfl (lv_at hl 0 rfl) ?_
  refine grX3_24_11 F K Z dX3_begin_1 ?_
  refine lv_iload_n hx hb dX3_begin_4 rfl (lv_at hl 1 rfl) ?_
  obtain ⟨q5, h5, hf⟩ := bind_some hf
  refine krX3_52_X8_begin F K E hA Z h5 ⟨Nat.le_of_ble_eq_true rfl, Nat.le_of_ble_eq_true rfl⟩ hl.1 (Nat.le_of_ble_eq_true rfl) dX3_begin_5 (fun H locs Z => ?_)
  refine lv_aload_n hx hb dX3_begin_8 rfl (lv_at hl 0 rfl) ?_
  refine lv_iconst (v := 0) hx hb dX3_begin_9 (by decide) ?_
  refine prX3_53_11 F K Z dX3_begin_10 (fun H locs Z => ?_)
  refine lv_aload_n hx hb dX3_begin_13 rfl (lv_at hl 0 rfl) ?_
  refine lv_iconst (v := 0) hx hb dX3_begin_14 (by decide) ?_
  refine prX3_56_11 F K Z dX3_begin_15 (fun H locs Z => ?_)
  refine lv_aload_n hx hb dX3_begin_18 rfl (lv_at hl 0 rfl) ?_
  refine lv_iconst (v := -1) hx hb dX3_begin_19 (by decide) ?_
  refine prX3_20_11 F K Z dX3_begin_20 (fun H locs Z => ?_)
  have hf := Option.some.inj hf
  subst hf
  exact ret_v F hr hk Z dX3_begin_23
def f_X3_wholeFormula (n : Nat) (st : StT) : Option (Int32 × StT) := (f_X3_begin n st (0 : Int32)).bind fun q2 => ((f_X3_readBothWays n q2).bind fun q6 => ((f_X3_expect n q6.2 (0 : Int32)).bind fun q12 => (some (q6.1, q12))))
theorem wd724 : Cond.methodLink RX3 32 yX3_begin ∈ Gw := gT2 (List.mem_of_getElem? (i := 187) rfl) rfl
theorem wd725 : Cond.code yX3_begin prog_5_method_4_code 2 none ∈ Gw := gT2 (List.mem_of_getElem? (i := 190) rfl) rfl
theorem wd726 : Cond.instanceMethod yX3_begin ∈ Gw := gT2 (List.mem_of_getElem? (i := 189) rfl) rfl
theorem wd727 : Cond.selects RX3 yX3_begin yX3_begin ∈ Gw := gP1 (q := (yX3_begin, 6)) (List.mem_of_getElem? (i := 2) rfl)
section
variable {p : Program} {l : Launch} {e : Env} {R : Room} {s : State} {m : MethodId} {args : Array Value} {below : List Frame} {meth : Method} {c : Code} {H : Heap} {locs : List Loc} {Q : State → Prop}
variable {cc : ByteArray} {nL pc : Nat} {ls : Array Slot} {rest : List Value} {D : va_G} {A : Nat → Prop} {cw : Cond} {ad : Nat → Nat} {cy : Nat → ClassId} {ee : EE} {st : StT} {own : String}
theorem krX3_32_X3_begin {n : Nat} {a0 : Int32} {q : StT} (F : CallFix p m c cc nL s args (cw :: Gw) RX3) (K : va_K D vwCl (tyL cy) s) (E : EV ee A s s.heap) (hA : ∀ q, s.heap.size ≤ q → A q) (Z : ZG D (wC ad cy st) A s H locs) (hf : f_X3_begin n st a0 = some q) (hR : 2 ≤ R.frames ∧ 42 ≤ R.locals) (hl : ls.size = nL) (hst : (rest.map fun v => v.category).sum ≤ 8) (hd : decode cc pc = .ok (.invokevirtual 32, 3)) (kk : ∀ (H1 : Heap) (locs1 : List Loc), ZG D (wC ad cy q) A s H1 locs1 → W p l e R s m args below meth c H1 locs1 0 0 Q (F0 m (pc + 3) ls (rest))) : W p l e R s m args below meth c H locs 0 0 Q (F0 m pc ls (.int a0 :: .ref (ad 11) :: rest)) :=
  call_V (q := (RX3, TX3, 6)) (n := 1) (As := [.int a0]) (rv := none) 11 3 F K E hA Z (c_X3_begin (l := l) (D := D) (ad := ad) (cy := cy) (ee := ee) hf) ⟨wd725, wd724, wd726, wd727, wd623⟩ (by decide +kernel) rfl rfl hR rfl hl hst hd kk
end
set_option maxRecDepth 100000 in
set_option maxHeartbeats 4000000 in
theorem c_X3_wholeFormula {l : Launch} {D : va_G} {ad : Nat → Nat} {cy : Nat → ClassId} {ee : EE} {n : Nat} {st : StT} {res : (Int32 × StT)} (hf : f_X3_wholeFormula n st = some res) : CT l yX3_wholeFormula cX3_wholeFormula 2 (some .int) 269 6700 D cy ee (wC ad cy st) (wC ad cy res.2) [.ref (ad 11)] (some (.int res.1)) := by
  refine CT.of (by decide +kernel) (Nat.le_of_ble_eq_true rfl) ?_
  intro p e s m args below meth c A F hr hk K E hA Z ls hl
  have hl : lv_has ls 2 [(0, .ref (ad 11))] := hl
  have hx := F.1
  have hb := F.2.1
  unfold f_X3_wholeFormula at hf
  refine lv_aload_n hx hb dX3_wholeFormula_0 rfl (lv_at hl 0 rfl) ?_
  refine lv_iconst (v := 0) hx hb dX3_wholeFormula_1 (by decide) ?_
  obtain ⟨q2, h2, hf⟩ := bind_some hf
  refine krX3_32_X3_begin F K E hA Z h2 ⟨Nat.le_of_ble_eq_true rfl, Nat.le_of_ble_eq_true rfl⟩ hl.1 (Nat.le_of_ble_eq_true rfl) dX3_wholeFormula_2 (fun H locs Z => ?_)
  refine lv_aload_n hx hb dX3_wholeFormula_5 rfl (lv_at hl 0 rfl) ?_
  obtain ⟨q6, h6, hf⟩ := bind_some hf
  refine krX3_36_X3_readBothWays F K E hA Z h6 ⟨Nat.le_of_ble_eq_true rfl, Nat.le_of_ble_eq_true rfl⟩ hl.1 (Nat.le_of_ble_eq_true rfl) dX3_wholeFormula_6 (fun H locs Z => ?_)
  refine lv_istore_n (lv' := [(1, .int q6.1), (0, .ref (ad 11))]) hx hb dX3_wholeFormula_9 rfl hl (by decide) rfl (fun ls hl => ?_)
  refine lv_aload_n hx hb dX3_wholeFormula_10 rfl (lv_at hl 1 rfl) ?_
  refine lv_iconst (v := 0) hx hb dX3_wholeFormula_11 (by decide) ?_
  obtain ⟨q12, h12, hf⟩ := bind_some hf
  refine krX3_42_X3_expect F K E hA Z h12 ⟨Nat.le_of_ble_eq_true rfl, Nat.le_of_ble_eq_true rfl⟩ hl.1 (Nat.le_of_ble_eq_true rfl) dX3_wholeFormula_12 (fun H locs Z => ?_)
  refine lv_iload_n hx hb dX3_wholeFormula_15 rfl (lv_at hl 0 rfl) ?_
  have hf := Option.some.inj hf
  subst hf
  exact ret_i F hr hk Z dX3_wholeFormula_16
def f_X3_wholeTerm (n : Nat) (st : StT) (x1 : Int32) : Option (Int32 × StT) := (f_X3_begin n st (1 : Int32)).bind fun q2 => ((f_X7_drop_T0 n q2).bind fun q9 => ((f_X3_readTerm n q9 x1).bind fun q14 => ((f_X3_expect n q14.2 (0 : Int32)).bind fun q20 => (some (q14.1, q20)))))
theorem wd728 : Cond.methodLink RX3 45 yX7_drop ∈ Gw := gT5 (List.mem_of_getElem? (i := 60) rfl) rfl
section
variable {p : Program} {l : Launch} {e : Env} {R : Room} {s : State} {m : MethodId} {args : Array Value} {below : List Frame} {meth : Method} {c : Code} {H : Heap} {locs : List Loc} {Q : State → Prop}
variable {cc : ByteArray} {nL pc : Nat} {ls : Array Slot} {rest : List Value} {D : va_G} {A : Nat → Prop} {cw : Cond} {ad : Nat → Nat} {cy : Nat → ClassId} {ee : EE} {st : StT} {own : String}
theorem krX3_48_X3_readTerm {n : Nat} {a0 : Int32} {q : (Int32 × StT)} (F : CallFix p m c cc nL s args (cw :: Gw) RX3) (K : va_K D vwCl (tyL cy) s) (E : EV ee A s s.heap) (hA : ∀ q, s.heap.size ≤ q → A q) (Z : ZG D (wC ad cy st) A s H locs) (hf : f_X3_readTerm n st a0 = some q) (hR : 400 ≤ R.frames ∧ 10106 ≤ R.locals) (hl : ls.size = nL) (hst : (rest.map fun v => v.category).sum ≤ 8) (hd : decode cc pc = .ok (.invokevirtual 48, 3)) (kk : ∀ (H1 : Heap) (locs1 : List Loc), ZG D (wC ad cy q.2) A s H1 locs1 → W p l e R s m args below meth c H1 locs1 0 0 Q (F0 m (pc + 3) ls (.int q.1 :: rest))) : W p l e R s m args below meth c H locs 0 0 Q (F0 m pc ls (.int a0 :: .ref (ad 11) :: rest)) :=
  call_V (q := (RX3, TX3, 6)) (n := 1) (As := [.int a0]) (rv := some (.int q.1)) 11 3 F K E hA Z (c_X3_readTerm (l := l) (D := D) (ad := ad) (cy := cy) (ee := ee) hf) ⟨wd716, wd715, wd717, wd718, wd623⟩ (by decide +kernel) rfl rfl hR rfl hl hst hd kk
theorem krX3_45_X7_drop_T0 {n : Nat}  {q : StT} (F : CallFix p m c cc nL s args (cw :: Gw) RX3) (K : va_K D vwCl (tyL cy) s) (E : EV ee A s s.heap) (hA : ∀ q, s.heap.size ≤ q → A q) (Z : ZG D (wC ad cy st) A s H locs) (hf : f_X7_drop_T0 n st = some q) (hR : 1 ≤ R.frames ∧ 20 ≤ R.locals) (hl : ls.size = nL) (hst : (rest.map fun v => v.category).sum ≤ 8) (hd : decode cc pc = .ok (.invokevirtual 45, 3)) (kk : ∀ (H1 : Heap) (locs1 : List Loc), ZG D (wC ad cy q) A s H1 locs1 → W p l e R s m args below meth c H1 locs1 0 0 Q (F0 m (pc + 3) ls (rest))) : W p l e R s m args below meth c H locs 0 0 Q (F0 m pc ls (.ref (ad 12) :: rest)) :=
  call_V (q := (RX7, TX7, 7)) (n := 0) (As := []) (rv := none) 12 7 F K E hA Z (c_X7_drop_T0 (l := l) (D := D) (ad := ad) (cy := cy) (ee := ee) hf) ⟨wd291, wd728, wd292, wd293, wd60⟩ (by decide +kernel) rfl rfl hR rfl hl hst hd kk
end
set_option maxRecDepth 100000 in
set_option maxHeartbeats 4000000 in
theorem c_X3_wholeTerm {l : Launch} {D : va_G} {ad : Nat → Nat} {cy : Nat → ClassId} {ee : EE} {n : Nat} {st : StT} {x1 : Int32} {res : (Int32 × StT)} (hf : f_X3_wholeTerm n st x1 = some res) : CT l yX3_wholeTerm cX3_wholeTerm 3 (some .int) 400 10106 D cy ee (wC ad cy st) (wC ad cy res.2) [.ref (ad 11), .int x1] (some (.int res.1)) := by
  refine CT.of (by decide +kernel) (Nat.le_of_ble_eq_true rfl) ?_
  intro p e s m args below meth c A F hr hk K E hA Z ls hl
  have hl : lv_has ls 3 [(0, .ref (ad 11)), (1, .int x1)] := hl
  have hx := F.1
  have hb := F.2.1
  unfold f_X3_wholeTerm at hf
  refine lv_aload_n hx hb dX3_wholeTerm_0 rfl (lv_at hl 0 rfl) ?_
  refine lv_iconst (v := 1) hx hb dX3_wholeTerm_1 (by decide) ?_
  obtain ⟨q2, h2, hf⟩ := bind_some hf
  refine krX3_32_X3_begin F K E hA Z h2 ⟨Nat.le_of_ble_eq_true rfl, Nat.le_of_ble_eq_true rfl⟩ hl.1 (Nat.le_of_ble_eq_true rfl) dX3_wholeTerm_2 (fun H locs Z => ?_)
  refine lv_aload_n hx hb dX3_wholeTerm_5 rfl (lv_at hl 0 rfl) ?_
  refine grX3_14_11 F K Z dX3_wholeTerm_6 ?_
  obtain ⟨q9, h9, hf⟩ := bind_some hf
  refine krX3_45_X7_drop_T0 F K E hA Z h9 ⟨Nat.le_of_ble_eq_true rfl, Nat.le_of_ble_eq_true rfl⟩ hl.1 (Nat.le_of_ble_eq_true rfl) dX3_wholeTerm_9 (fun H locs Z => ?_)
  refine lv_aload_n hx hb dX3_wholeTerm_12 rfl (lv_at hl 0 rfl) ?_
  refine lv_iload_n hx hb dX3_wholeTerm_13 rfl (lv_at hl 1 rfl) ?_
  obtain ⟨q14, h14, hf⟩ := bind_some hf
  refine krX3_48_X3_readTerm F K E hA Z h14 ⟨Nat.le_of_ble_eq_true rfl, Nat.le_of_ble_eq_true rfl⟩ hl.1 (Nat.le_of_ble_eq_true rfl) dX3_wholeTerm_14 (fun H locs Z => ?_)
  refine lv_istore_n (lv' := [(2, .int q14.1), (0, .ref (ad 11)), (1, .int x1)]) hx hb dX3_wholeTerm_17 rfl hl (by decide) rfl (fun ls hl => ?_)
  refine lv_aload_n hx hb dX3_wholeTerm_18 rfl (lv_at hl 1 rfl) ?_
  refine lv_iconst (v := 0) hx hb dX3_wholeTerm_19 (by decide) ?_
  obtain ⟨q20, h20, hf⟩ := bind_some hf
  refine krX3_42_X3_expect F K E hA Z h20 ⟨Nat.le_of_ble_eq_true rfl, Nat.le_of_ble_eq_true rfl⟩ hl.1 (Nat.le_of_ble_eq_true rfl) dX3_wholeTerm_20 (fun H locs Z => ?_)
  refine lv_iload_n hx hb dX3_wholeTerm_23 rfl (lv_at hl 0 rfl) ?_
  have hf := Option.some.inj hf
  subst hf
  exact ret_i F hr hk Z dX3_wholeTerm_24
