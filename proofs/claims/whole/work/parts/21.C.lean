



def f_X0_kindOf (n : Nat) (st : StT) (x1 : Int32) : Option (Int32 × StT) := if (2000 : Int32) ≤ x1 then ((f_X1_kindOf_F1 n st (x1 - (2000 : Int32))).bind fun q27 => (some (q27.1, q27.2))) else ((f_X1_kindOf_F0 n st x1).bind fun q12 => (some (q12.1, q12.2)))
theorem wd729 : Cond.laysFinal RX0 "WorldProver$Checker" "formulas" "LWorldProver$Formulas;" ∈ Gw := gT2 (List.mem_of_getElem? (i := 86) rfl) rfl
theorem wd730 : Cond.laysFinal RX0 "WorldProver$Checker" "terms" "LWorldProver$Terms;" ∈ Gw := gT2 (List.mem_of_getElem? (i := 88) rfl) rfl
theorem wd731 : Cond.laysFinal RX0 "WorldProver$Checker" "others" "LWorldProver$Formulas;" ∈ Gw := gT2 (List.mem_of_getElem? (i := 90) rfl) rfl
theorem wd732 : Cond.laysFinal RX0 "WorldProver$Checker" "around" "[I" ∈ Gw := gT2 (List.mem_of_getElem? (i := 92) rfl) rfl
theorem wd733 : Cond.fieldLink RX0 27 "WorldProver$Checker" "terms" "LWorldProver$Terms;" ∈ Gw := gT2 (List.mem_of_getElem? (i := 83) rfl) rfl
theorem wd734 : Cond.fieldLink RX0 14 "WorldProver$Checker" "others" "LWorldProver$Formulas;" ∈ Gw := gT2 (List.mem_of_getElem? (i := 84) rfl) rfl
theorem wd735 : Cond.fieldLink RX0 24 "WorldProver$Checker" "formulas" "LWorldProver$Formulas;" ∈ Gw := gT2 (List.mem_of_getElem? (i := 82) rfl) rfl
theorem wd736 : Cond.methodLink RX0 38 yX1_kindOf ∈ Gw := gT5 (List.mem_of_getElem? (i := 100) rfl) rfl
theorem inG_X0 : ∀ w ∈ u_ws RX0 TX0 4, w ∈ Gw := by
  intro w h
  obtain ⟨k, hk, rfl⟩ := List.mem_map.mp h
  have hk := List.mem_range.mp hk
  by_cases h0 : k = 0
  · subst h0; exact wd729
  by_cases h1 : k = 1
  · subst h1; exact wd730
  by_cases h2 : k = 2
  · subst h2; exact wd731
  by_cases h3 : k = 3
  · subst h3; exact wd732
  omega
section
variable {p : Program} {l : Launch} {e : Env} {R : Room} {s : State} {m : MethodId} {args : Array Value} {below : List Frame} {meth : Method} {c : Code} {H : Heap} {locs : List Loc} {Q : State → Prop}
variable {cc : ByteArray} {nL pc : Nat} {ls : Array Slot} {rest : List Value} {D : va_G} {A : Nat → Prop} {cw : Cond} {ad : Nat → Nat} {cy : Nat → ClassId} {ee : EE} {st : StT} {own : String}
theorem grX0_27_46 (F : CallFix p m c cc nL s args (cw :: Gw) RX0) (K : va_K D vwCl (tyL cy) s) (Z : ZG D (wC ad cy st) A s H locs) (hd : decode cc pc = .ok (.getfield 27, 3)) (kk : W p l e R s m args below meth c H locs 0 0 Q (F0 m (pc + 3) ls (.ref (ad 12) :: rest))) : W p l e R s m args below meth c H locs 0 0 Q (F0 m pc ls (.ref (ad 46) :: rest)) :=
  va_get (D := D) (ci := 0) (C := RX0) (T := TX0) (N := 4) F.1 F.2.1 F.2.2.2.2 (fun w h => List.mem_cons_of_mem _ (inG_X0 w h)) F.2.2.2.1 K Z.1 46 rfl rfl 1 (by decide) (F.2.2.2.2 _ (List.mem_cons_of_mem _ wd733)) (fun _ h => h) rfl hd kk
theorem grX0_14_46 (F : CallFix p m c cc nL s args (cw :: Gw) RX0) (K : va_K D vwCl (tyL cy) s) (Z : ZG D (wC ad cy st) A s H locs) (hd : decode cc pc = .ok (.getfield 14, 3)) (kk : W p l e R s m args below meth c H locs 0 0 Q (F0 m (pc + 3) ls (.ref (ad 47) :: rest))) : W p l e R s m args below meth c H locs 0 0 Q (F0 m pc ls (.ref (ad 46) :: rest)) :=
  va_get (D := D) (ci := 0) (C := RX0) (T := TX0) (N := 4) F.1 F.2.1 F.2.2.2.2 (fun w h => List.mem_cons_of_mem _ (inG_X0 w h)) F.2.2.2.1 K Z.1 46 rfl rfl 2 (by decide) (F.2.2.2.2 _ (List.mem_cons_of_mem _ wd734)) (fun _ h => h) rfl hd kk
theorem grX0_24_46 (F : CallFix p m c cc nL s args (cw :: Gw) RX0) (K : va_K D vwCl (tyL cy) s) (Z : ZG D (wC ad cy st) A s H locs) (hd : decode cc pc = .ok (.getfield 24, 3)) (kk : W p l e R s m args below meth c H locs 0 0 Q (F0 m (pc + 3) ls (.ref (ad 4) :: rest))) : W p l e R s m args below meth c H locs 0 0 Q (F0 m pc ls (.ref (ad 46) :: rest)) :=
  va_get (D := D) (ci := 0) (C := RX0) (T := TX0) (N := 4) F.1 F.2.1 F.2.2.2.2 (fun w h => List.mem_cons_of_mem _ (inG_X0 w h)) F.2.2.2.1 K Z.1 46 rfl rfl 0 (by decide) (F.2.2.2.2 _ (List.mem_cons_of_mem _ wd735)) (fun _ h => h) rfl hd kk
theorem krX0_38_X1_kindOf_F1 {n : Nat} {a0 : Int32} {q : (Int32 × StT)} (F : CallFix p m c cc nL s args (cw :: Gw) RX0) (K : va_K D vwCl (tyL cy) s) (E : EV ee A s s.heap) (hA : ∀ q, s.heap.size ≤ q → A q) (Z : ZG D (wC ad cy st) A s H locs) (hf : f_X1_kindOf_F1 n st a0 = some q) (hR : 2 ≤ R.frames ∧ 42 ≤ R.locals) (hl : ls.size = nL) (hst : (rest.map fun v => v.category).sum ≤ 8) (hd : decode cc pc = .ok (.invokevirtual 38, 3)) (kk : ∀ (H1 : Heap) (locs1 : List Loc), ZG D (wC ad cy q.2) A s H1 locs1 → W p l e R s m args below meth c H1 locs1 0 0 Q (F0 m (pc + 3) ls (.int q.1 :: rest))) : W p l e R s m args below meth c H locs 0 0 Q (F0 m pc ls (.int a0 :: .ref (ad 47) :: rest)) :=
  call_V (q := (RX1, TX1, 9)) (n := 1) (As := [.int a0]) (rv := some (.int q.1)) 47 1 F K E hA Z (c_X1_kindOf_F1 (l := l) (D := D) (ad := ad) (cy := cy) (ee := ee) hf) ⟨wd147, wd736, wd148, wd149, wd17⟩ (by decide +kernel) rfl rfl hR rfl hl hst hd kk
theorem krX0_38_X1_kindOf_F0 {n : Nat} {a0 : Int32} {q : (Int32 × StT)} (F : CallFix p m c cc nL s args (cw :: Gw) RX0) (K : va_K D vwCl (tyL cy) s) (E : EV ee A s s.heap) (hA : ∀ q, s.heap.size ≤ q → A q) (Z : ZG D (wC ad cy st) A s H locs) (hf : f_X1_kindOf_F0 n st a0 = some q) (hR : 2 ≤ R.frames ∧ 42 ≤ R.locals) (hl : ls.size = nL) (hst : (rest.map fun v => v.category).sum ≤ 8) (hd : decode cc pc = .ok (.invokevirtual 38, 3)) (kk : ∀ (H1 : Heap) (locs1 : List Loc), ZG D (wC ad cy q.2) A s H1 locs1 → W p l e R s m args below meth c H1 locs1 0 0 Q (F0 m (pc + 3) ls (.int q.1 :: rest))) : W p l e R s m args below meth c H locs 0 0 Q (F0 m pc ls (.int a0 :: .ref (ad 4) :: rest)) :=
  call_V (q := (RX1, TX1, 9)) (n := 1) (As := [.int a0]) (rv := some (.int q.1)) 4 1 F K E hA Z (c_X1_kindOf_F0 (l := l) (D := D) (ad := ad) (cy := cy) (ee := ee) hf) ⟨wd147, wd736, wd148, wd149, wd17⟩ (by decide +kernel) rfl rfl hR rfl hl hst hd kk
end
set_option maxRecDepth 100000 in
set_option maxHeartbeats 4000000 in
theorem c_X0_kindOf {l : Launch} {D : va_G} {ad : Nat → Nat} {cy : Nat → ClassId} {ee : EE} {n : Nat} {st : StT} {x1 : Int32} {res : (Int32 × StT)} (hf : f_X0_kindOf n st x1 = some res) : CT l yX0_kindOf cX0_kindOf 2 (some .int) 2 42 D cy ee (wC ad cy st) (wC ad cy res.2) [.ref (ad 46), .int x1] (some (.int res.1)) := by
  refine CT.of (by decide +kernel) (Nat.le_of_ble_eq_true rfl) ?_
  intro p e s m args below meth c A F hr hk K E hA Z ls hl
  have hl : lv_has ls 2 [(0, .ref (ad 46)), (1, .int x1)] := hl
  have hx := F.1
  have hb := F.2.1
  unfold f_X0_kindOf at hf
  refine lv_iload_n hx hb dX0_kindOf_0 rfl (lv_at hl 1 rfl) ?_
  refine lv_sipush (v := 2000) hx hb dX0_kindOf_1 (by decide) ?_
  refine lv_icmp_ge (tgt := 18) hx hb dX0_kindOf_4 (by decide) (fun c4 => ?_) (fun c4 => ?_)
  · have hf := if_t c4 hf
    refine lv_aload_n hx hb dX0_kindOf_18 rfl (lv_at hl 0 rfl) ?_
    refine grX0_14_46 F K Z dX0_kindOf_19 ?_
    refine lv_iload_n hx hb dX0_kindOf_22 rfl (lv_at hl 1 rfl) ?_
    refine lv_sipush (v := 2000) hx hb dX0_kindOf_23 (by decide) ?_
    refine lv_isub hx hb dX0_kindOf_26 ?_
    obtain ⟨q27, h27, hf⟩ := bind_some hf
    refine krX0_38_X1_kindOf_F1 F K E hA Z h27 ⟨Nat.le_of_ble_eq_true rfl, Nat.le_of_ble_eq_true rfl⟩ hl.1 (Nat.le_of_ble_eq_true rfl) dX0_kindOf_27 (fun H locs Z => ?_)
    have hf := Option.some.inj hf
    subst hf
    exact ret_i F hr hk Z dX0_kindOf_30
  have hf := if_f c4 hf
  refine lv_aload_n hx hb dX0_kindOf_7 rfl (lv_at hl 0 rfl) ?_
  refine grX0_24_46 F K Z dX0_kindOf_8 ?_
  refine lv_iload_n hx hb dX0_kindOf_11 rfl (lv_at hl 1 rfl) ?_
  obtain ⟨q12, h12, hf⟩ := bind_some hf
  refine krX0_38_X1_kindOf_F0 F K E hA Z h12 ⟨Nat.le_of_ble_eq_true rfl, Nat.le_of_ble_eq_true rfl⟩ hl.1 (Nat.le_of_ble_eq_true rfl) dX0_kindOf_12 (fun H locs Z => ?_)
  refine lv_goto (tgt := 30) hx hb dX0_kindOf_15 (by decide) ?_
  have hf := Option.some.inj hf
  subst hf
  exact ret_i F hr hk Z dX0_kindOf_30

def f_X0_firstOf (n : Nat) (st : StT) (x1 : Int32) : Option (Int32 × StT) := if (2000 : Int32) ≤ x1 then ((f_X1_firstOf_F1 n st (x1 - (2000 : Int32))).bind fun q27 => (some (q27.1, q27.2))) else ((f_X1_firstOf_F0 n st x1).bind fun q12 => (some (q12.1, q12.2)))
theorem wd737 : Cond.methodLink RX0 42 yX1_firstOf ∈ Gw := gT5 (List.mem_of_getElem? (i := 105) rfl) rfl
section
variable {p : Program} {l : Launch} {e : Env} {R : Room} {s : State} {m : MethodId} {args : Array Value} {below : List Frame} {meth : Method} {c : Code} {H : Heap} {locs : List Loc} {Q : State → Prop}
variable {cc : ByteArray} {nL pc : Nat} {ls : Array Slot} {rest : List Value} {D : va_G} {A : Nat → Prop} {cw : Cond} {ad : Nat → Nat} {cy : Nat → ClassId} {ee : EE} {st : StT} {own : String}
theorem krX0_42_X1_firstOf_F1 {n : Nat} {a0 : Int32} {q : (Int32 × StT)} (F : CallFix p m c cc nL s args (cw :: Gw) RX0) (K : va_K D vwCl (tyL cy) s) (E : EV ee A s s.heap) (hA : ∀ q, s.heap.size ≤ q → A q) (Z : ZG D (wC ad cy st) A s H locs) (hf : f_X1_firstOf_F1 n st a0 = some q) (hR : 2 ≤ R.frames ∧ 42 ≤ R.locals) (hl : ls.size = nL) (hst : (rest.map fun v => v.category).sum ≤ 8) (hd : decode cc pc = .ok (.invokevirtual 42, 3)) (kk : ∀ (H1 : Heap) (locs1 : List Loc), ZG D (wC ad cy q.2) A s H1 locs1 → W p l e R s m args below meth c H1 locs1 0 0 Q (F0 m (pc + 3) ls (.int q.1 :: rest))) : W p l e R s m args below meth c H locs 0 0 Q (F0 m pc ls (.int a0 :: .ref (ad 47) :: rest)) :=
  call_V (q := (RX1, TX1, 9)) (n := 1) (As := [.int a0]) (rv := some (.int q.1)) 47 1 F K E hA Z (c_X1_firstOf_F1 (l := l) (D := D) (ad := ad) (cy := cy) (ee := ee) hf) ⟨wd143, wd737, wd144, wd145, wd17⟩ (by decide +kernel) rfl rfl hR rfl hl hst hd kk
theorem krX0_42_X1_firstOf_F0 {n : Nat} {a0 : Int32} {q : (Int32 × StT)} (F : CallFix p m c cc nL s args (cw :: Gw) RX0) (K : va_K D vwCl (tyL cy) s) (E : EV ee A s s.heap) (hA : ∀ q, s.heap.size ≤ q → A q) (Z : ZG D (wC ad cy st) A s H locs) (hf : f_X1_firstOf_F0 n st a0 = some q) (hR : 2 ≤ R.frames ∧ 42 ≤ R.locals) (hl : ls.size = nL) (hst : (rest.map fun v => v.category).sum ≤ 8) (hd : decode cc pc = .ok (.invokevirtual 42, 3)) (kk : ∀ (H1 : Heap) (locs1 : List Loc), ZG D (wC ad cy q.2) A s H1 locs1 → W p l e R s m args below meth c H1 locs1 0 0 Q (F0 m (pc + 3) ls (.int q.1 :: rest))) : W p l e R s m args below meth c H locs 0 0 Q (F0 m pc ls (.int a0 :: .ref (ad 4) :: rest)) :=
  call_V (q := (RX1, TX1, 9)) (n := 1) (As := [.int a0]) (rv := some (.int q.1)) 4 1 F K E hA Z (c_X1_firstOf_F0 (l := l) (D := D) (ad := ad) (cy := cy) (ee := ee) hf) ⟨wd143, wd737, wd144, wd145, wd17⟩ (by decide +kernel) rfl rfl hR rfl hl hst hd kk
end
set_option maxRecDepth 100000 in
set_option maxHeartbeats 4000000 in
theorem c_X0_firstOf {l : Launch} {D : va_G} {ad : Nat → Nat} {cy : Nat → ClassId} {ee : EE} {n : Nat} {st : StT} {x1 : Int32} {res : (Int32 × StT)} (hf : f_X0_firstOf n st x1 = some res) : CT l yX0_firstOf cX0_firstOf 2 (some .int) 2 42 D cy ee (wC ad cy st) (wC ad cy res.2) [.ref (ad 46), .int x1] (some (.int res.1)) := by
  refine CT.of (by decide +kernel) (Nat.le_of_ble_eq_true rfl) ?_
  intro p e s m args below meth c A F hr hk K E hA Z ls hl
  have hl : lv_has ls 2 [(0, .ref (ad 46)), (1, .int x1)] := hl
  have hx := F.1
  have hb := F.2.1
  unfold f_X0_firstOf at hf
  refine lv_iload_n hx hb dX0_firstOf_0 rfl (lv_at hl 1 rfl) ?_
  refine lv_sipush (v := 2000) hx hb dX0_firstOf_1 (by decide) ?_
  refine lv_icmp_ge (tgt := 18) hx hb dX0_firstOf_4 (by decide) (fun c4 => ?_) (fun c4 => ?_)
  · have hf := if_t c4 hf
    refine lv_aload_n hx hb dX0_firstOf_18 rfl (lv_at hl 0 rfl) ?_
    refine grX0_14_46 F K Z dX0_firstOf_19 ?_
    refine lv_iload_n hx hb dX0_firstOf_22 rfl (lv_at hl 1 rfl) ?_
    refine lv_sipush (v := 2000) hx hb dX0_firstOf_23 (by decide) ?_
    refine lv_isub hx hb dX0_firstOf_26 ?_
    obtain ⟨q27, h27, hf⟩ := bind_some hf
    refine krX0_42_X1_firstOf_F1 F K E hA Z h27 ⟨Nat.le_of_ble_eq_true rfl, Nat.le_of_ble_eq_true rfl⟩ hl.1 (Nat.le_of_ble_eq_true rfl) dX0_firstOf_27 (fun H locs Z => ?_)
    have hf := Option.some.inj hf
    subst hf
    exact ret_i F hr hk Z dX0_firstOf_30
  have hf := if_f c4 hf
  refine lv_aload_n hx hb dX0_firstOf_7 rfl (lv_at hl 0 rfl) ?_
  refine grX0_24_46 F K Z dX0_firstOf_8 ?_
  refine lv_iload_n hx hb dX0_firstOf_11 rfl (lv_at hl 1 rfl) ?_
  obtain ⟨q12, h12, hf⟩ := bind_some hf
  refine krX0_42_X1_firstOf_F0 F K E hA Z h12 ⟨Nat.le_of_ble_eq_true rfl, Nat.le_of_ble_eq_true rfl⟩ hl.1 (Nat.le_of_ble_eq_true rfl) dX0_firstOf_12 (fun H locs Z => ?_)
  refine lv_goto (tgt := 30) hx hb dX0_firstOf_15 (by decide) ?_
  have hf := Option.some.inj hf
  subst hf
  exact ret_i F hr hk Z dX0_firstOf_30

def f_X0_binds (n : Nat) (st : StT) (x1 : Int32) (x2 : Int32) : Option (Int32 × StT) := if x2 < 0 then (some ((0 : Int32), st)) else (if x2 < (60 : Int32) then (if inB x2 60 = true then (some ((1 : Int32), (uA st 40 x2 x1))) else none) else (some ((0 : Int32), st)))
theorem wd738 : Cond.fieldLink RX0 20 "WorldProver$Checker" "around" "[I" ∈ Gw := gT2 (List.mem_of_getElem? (i := 85) rfl) rfl
section
variable {p : Program} {l : Launch} {e : Env} {R : Room} {s : State} {m : MethodId} {args : Array Value} {below : List Frame} {meth : Method} {c : Code} {H : Heap} {locs : List Loc} {Q : State → Prop}
variable {cc : ByteArray} {nL pc : Nat} {ls : Array Slot} {rest : List Value} {D : va_G} {A : Nat → Prop} {cw : Cond} {ad : Nat → Nat} {cy : Nat → ClassId} {ee : EE} {st : StT} {own : String}
theorem grX0_20_46 (F : CallFix p m c cc nL s args (cw :: Gw) RX0) (K : va_K D vwCl (tyL cy) s) (Z : ZG D (wC ad cy st) A s H locs) (hd : decode cc pc = .ok (.getfield 20, 3)) (kk : W p l e R s m args below meth c H locs 0 0 Q (F0 m (pc + 3) ls (.ref (ad 54) :: rest))) : W p l e R s m args below meth c H locs 0 0 Q (F0 m pc ls (.ref (ad 46) :: rest)) :=
  va_get (D := D) (ci := 0) (C := RX0) (T := TX0) (N := 4) F.1 F.2.1 F.2.2.2.2 (fun w h => List.mem_cons_of_mem _ (inG_X0 w h)) F.2.2.2.1 K Z.1 46 rfl rfl 3 (by decide) (F.2.2.2.2 _ (List.mem_cons_of_mem _ wd738)) (fun _ h => h) rfl hd kk
theorem as54 {i : Int32} {v : Int32} (F : CallFix p m c cc nL s args (cw :: Gw) own) (K : va_K D vwCl (tyL cy) s) (Z : ZG D (wC ad cy st) A s H locs) (hi : inB i 60 = true) (hd : decode cc pc = .ok (.iastore, 1)) (kk : ∀ (H1 : Heap) (locs1 : List Loc), ZG D (wC ad cy (uA st 40 i v)) A s H1 locs1 → W p l e R s m args below meth c H1 locs1 0 0 Q (F0 m (pc + 1) ls rest)) : W p l e R s m args below meth c H locs 0 0 Q (F0 m pc ls (.int v :: .int i :: .ref (ad 54) :: rest)) :=
  va_iast F.1 F.2.1 K Z.1 Z.2.1 Z.2.2 54 1 rfl rfl (inB_vp hi) hd (fun H1 locs1 hP hD hS => kk H1 locs1 ⟨hP, hD, hS⟩)
end
set_option maxRecDepth 100000 in
set_option maxHeartbeats 4000000 in
theorem c_X0_binds {l : Launch} {D : va_G} {ad : Nat → Nat} {cy : Nat → ClassId} {ee : EE} {n : Nat} {st : StT} {x1 : Int32} {x2 : Int32} {res : (Int32 × StT)} (hf : f_X0_binds n st x1 x2 = some res) : CT l yX0_binds cX0_binds 3 (some .boolean) 0 0 D cy ee (wC ad cy st) (wC ad cy res.2) [.ref (ad 46), .int x1, .int x2] (some (.int res.1)) := by
  refine CT.of (by decide +kernel) (Nat.le_of_ble_eq_true rfl) ?_
  intro p e s m args below meth c A F hr hk K E hA Z ls hl
  have hl : lv_has ls 3 [(0, .ref (ad 46)), (1, .int x1), (2, .int x2)] := hl
  have hx := F.1
  have hb := F.2.1
  unfold f_X0_binds at hf
  refine lv_iload_n hx hb dX0_binds_0 rfl (lv_at hl 2 rfl) ?_
  refine lv_if_lt (tgt := 10) hx hb dX0_binds_1 (by decide) (fun c1 => ?_) (fun c1 => ?_)
  · have hf := if_t c1 hf
    refine lv_iconst (v := 0) hx hb dX0_binds_10 (by decide) ?_
    have hf := Option.some.inj hf
    subst hf
    exact ret_z F hr hk Z rfl dX0_binds_11
  have hf := if_f c1 hf
  refine lv_iload_n hx hb dX0_binds_4 rfl (lv_at hl 2 rfl) ?_
  refine lv_bipush (v := 60) hx hb dX0_binds_5 (by decide) ?_
  refine lv_icmp_lt (tgt := 12) hx hb dX0_binds_7 (by decide) (fun c7 => ?_) (fun c7 => ?_)
  · have hf := if_t c7 hf
    refine lv_aload_n hx hb dX0_binds_12 rfl (lv_at hl 0 rfl) ?_
    refine grX0_20_46 F K Z dX0_binds_13 ?_
    refine lv_iload_n hx hb dX0_binds_16 rfl (lv_at hl 2 rfl) ?_
    refine lv_iload_n hx hb dX0_binds_17 rfl (lv_at hl 1 rfl) ?_
    obtain ⟨i18, hf⟩ := if_some hf
    refine as54 F K Z i18 dX0_binds_18 (fun H locs Z => ?_)
    refine lv_iconst (v := 1) hx hb dX0_binds_19 (by decide) ?_
    have hf := Option.some.inj hf
    subst hf
    exact ret_z F hr hk Z rfl dX0_binds_20
  have hf := if_f c7 hf
  refine lv_iconst (v := 0) hx hb dX0_binds_10 (by decide) ?_
  have hf := Option.some.inj hf
  subst hf
  exact ret_z F hr hk Z rfl dX0_binds_11

def f_X0_secondOf (n : Nat) (st : StT) (x1 : Int32) : Option (Int32 × StT) := if (2000 : Int32) ≤ x1 then ((f_X1_secondOf_F1 n st (x1 - (2000 : Int32))).bind fun q27 => (some (q27.1, q27.2))) else ((f_X1_secondOf_F0 n st x1).bind fun q12 => (some (q12.1, q12.2)))
theorem wd739 : Cond.methodLink RX0 45 yX1_secondOf ∈ Gw := gT5 (List.mem_of_getElem? (i := 115) rfl) rfl
section
variable {p : Program} {l : Launch} {e : Env} {R : Room} {s : State} {m : MethodId} {args : Array Value} {below : List Frame} {meth : Method} {c : Code} {H : Heap} {locs : List Loc} {Q : State → Prop}
variable {cc : ByteArray} {nL pc : Nat} {ls : Array Slot} {rest : List Value} {D : va_G} {A : Nat → Prop} {cw : Cond} {ad : Nat → Nat} {cy : Nat → ClassId} {ee : EE} {st : StT} {own : String}
theorem krX0_45_X1_secondOf_F1 {n : Nat} {a0 : Int32} {q : (Int32 × StT)} (F : CallFix p m c cc nL s args (cw :: Gw) RX0) (K : va_K D vwCl (tyL cy) s) (E : EV ee A s s.heap) (hA : ∀ q, s.heap.size ≤ q → A q) (Z : ZG D (wC ad cy st) A s H locs) (hf : f_X1_secondOf_F1 n st a0 = some q) (hR : 2 ≤ R.frames ∧ 42 ≤ R.locals) (hl : ls.size = nL) (hst : (rest.map fun v => v.category).sum ≤ 8) (hd : decode cc pc = .ok (.invokevirtual 45, 3)) (kk : ∀ (H1 : Heap) (locs1 : List Loc), ZG D (wC ad cy q.2) A s H1 locs1 → W p l e R s m args below meth c H1 locs1 0 0 Q (F0 m (pc + 3) ls (.int q.1 :: rest))) : W p l e R s m args below meth c H locs 0 0 Q (F0 m pc ls (.int a0 :: .ref (ad 47) :: rest)) :=
  call_V (q := (RX1, TX1, 9)) (n := 1) (As := [.int a0]) (rv := some (.int q.1)) 47 1 F K E hA Z (c_X1_secondOf_F1 (l := l) (D := D) (ad := ad) (cy := cy) (ee := ee) hf) ⟨wd199, wd739, wd200, wd201, wd17⟩ (by decide +kernel) rfl rfl hR rfl hl hst hd kk
theorem krX0_45_X1_secondOf_F0 {n : Nat} {a0 : Int32} {q : (Int32 × StT)} (F : CallFix p m c cc nL s args (cw :: Gw) RX0) (K : va_K D vwCl (tyL cy) s) (E : EV ee A s s.heap) (hA : ∀ q, s.heap.size ≤ q → A q) (Z : ZG D (wC ad cy st) A s H locs) (hf : f_X1_secondOf_F0 n st a0 = some q) (hR : 2 ≤ R.frames ∧ 42 ≤ R.locals) (hl : ls.size = nL) (hst : (rest.map fun v => v.category).sum ≤ 8) (hd : decode cc pc = .ok (.invokevirtual 45, 3)) (kk : ∀ (H1 : Heap) (locs1 : List Loc), ZG D (wC ad cy q.2) A s H1 locs1 → W p l e R s m args below meth c H1 locs1 0 0 Q (F0 m (pc + 3) ls (.int q.1 :: rest))) : W p l e R s m args below meth c H locs 0 0 Q (F0 m pc ls (.int a0 :: .ref (ad 4) :: rest)) :=
  call_V (q := (RX1, TX1, 9)) (n := 1) (As := [.int a0]) (rv := some (.int q.1)) 4 1 F K E hA Z (c_X1_secondOf_F0 (l := l) (D := D) (ad := ad) (cy := cy) (ee := ee) hf) ⟨wd199, wd739, wd200, wd201, wd17⟩ (by decide +kernel) rfl rfl hR rfl hl hst hd kk
end
set_option maxRecDepth 100000 in
set_option maxHeartbeats 4000000 in
theorem c_X0_secondOf {l : Launch} {D : va_G} {ad : Nat → Nat} {cy : Nat → ClassId} {ee : EE} {n : Nat} {st : StT} {x1 : Int32} {res : (Int32 × StT)} (hf : f_X0_secondOf n st x1 = some res) : CT l yX0_secondOf cX0_secondOf 2 (some .int) 2 42 D cy ee (wC ad cy st) (wC ad cy res.2) [.ref (ad 46), .int x1] (some (.int res.1)) := by
  refine CT.of (by decide +kernel) (Nat.le_of_ble_eq_true rfl) ?_
  intro p e s m args below meth c A F hr hk K E hA Z ls hl
  have hl : lv_has ls 2 [(0, .ref (ad 46)), (1, .int x1)] := hl
  have hx := F.1
  have hb := F.2.1
  unfold f_X0_secondOf at hf
  refine lv_iload_n hx hb dX0_secondOf_0 rfl (lv_at hl 1 rfl) ?_
  refine lv_sipush (v := 2000) hx hb dX0_secondOf_1 (by decide) ?_
  refine lv_icmp_ge (tgt := 18) hx hb dX0_secondOf_4 (by decide) (fun c4 => ?_) (fun c4 => ?_)
  · have hf := if_t c4 hf
    refine lv_aload_n hx hb dX0_secondOf_18 rfl (lv_at hl 0 rfl) ?_
    refine grX0_14_46 F K Z dX0_secondOf_19 ?_
    refine lv_iload_n hx hb dX0_secondOf_22 rfl (lv_at hl 1 rfl) ?_
    refine lv_sipush (v := 2000) hx hb dX0_secondOf_23 (by decide) ?_
    refine lv_isub hx hb dX0_secondOf_26 ?_
    obtain ⟨q27, h27, hf⟩ := bind_some hf
    refine krX0_45_X1_secondOf_F1 F K E hA Z h27 ⟨Nat.le_of_ble_eq_true rfl, Nat.le_of_ble_eq_true rfl⟩ hl.1 (Nat.le_of_ble_eq_true rfl) dX0_secondOf_27 (fun H locs Z => ?_)
    have hf := Option.some.inj hf
    subst hf
    exact ret_i F hr hk Z dX0_secondOf_30
  have hf := if_f c4 hf
  refine lv_aload_n hx hb dX0_secondOf_7 rfl (lv_at hl 0 rfl) ?_
  refine grX0_24_46 F K Z dX0_secondOf_8 ?_
  refine lv_iload_n hx hb dX0_secondOf_11 rfl (lv_at hl 1 rfl) ?_
  obtain ⟨q12, h12, hf⟩ := bind_some hf
  refine krX0_45_X1_secondOf_F0 F K E hA Z h12 ⟨Nat.le_of_ble_eq_true rfl, Nat.le_of_ble_eq_true rfl⟩ hl.1 (Nat.le_of_ble_eq_true rfl) dX0_secondOf_12 (fun H locs Z => ?_)
  refine lv_goto (tgt := 30) hx hb dX0_secondOf_15 (by decide) ?_
  have hf := Option.some.inj hf
  subst hf
  exact ret_i F hr hk Z dX0_secondOf_30

















def f_X0_joined (n : Nat) (st : StT) (x1 : Int32) (x2 : Int32) (x3 : Int32) : Option (Int32 × StT) := if x2 < 0 then (some ((-1 : Int32), st)) else (if 0 ≤ x3 then ((f_X1_find_F0 n st x1 x2 x3).bind fun q17 => (if q17.1 < 0 then ((f_X1_joined_F1 n q17.2 x1 x2 x3).bind fun q37 => (if 0 ≤ q37.1 then (some (((2000 : Int32) + q37.1), q37.2)) else (some ((-1 : Int32), q37.2)))) else (some (q17.1, q17.2)))) else (some ((-1 : Int32), st)))
theorem wd740 : Cond.methodLink RX0 52 yX1_joined ∈ Gw := gT5 (List.mem_of_getElem? (i := 129) rfl) rfl
theorem wd741 : Cond.methodLink RX0 48 yX1_find ∈ Gw := gT5 (List.mem_of_getElem? (i := 128) rfl) rfl
section
variable {p : Program} {l : Launch} {e : Env} {R : Room} {s : State} {m : MethodId} {args : Array Value} {below : List Frame} {meth : Method} {c : Code} {H : Heap} {locs : List Loc} {Q : State → Prop}
variable {cc : ByteArray} {nL pc : Nat} {ls : Array Slot} {rest : List Value} {D : va_G} {A : Nat → Prop} {cw : Cond} {ad : Nat → Nat} {cy : Nat → ClassId} {ee : EE} {st : StT} {own : String}
theorem krX0_52_X1_joined_F1 {n : Nat} {a0 : Int32} {a1 : Int32} {a2 : Int32} {q : (Int32 × StT)} (F : CallFix p m c cc nL s args (cw :: Gw) RX0) (K : va_K D vwCl (tyL cy) s) (E : EV ee A s s.heap) (hA : ∀ q, s.heap.size ≤ q → A q) (Z : ZG D (wC ad cy st) A s H locs) (hf : f_X1_joined_F1 n st a0 a1 a2 = some q) (hR : 2 ≤ R.frames ∧ 51 ≤ R.locals) (hl : ls.size = nL) (hst : (rest.map fun v => v.category).sum ≤ 8) (hd : decode cc pc = .ok (.invokevirtual 52, 3)) (kk : ∀ (H1 : Heap) (locs1 : List Loc), ZG D (wC ad cy q.2) A s H1 locs1 → W p l e R s m args below meth c H1 locs1 0 0 Q (F0 m (pc + 3) ls (.int q.1 :: rest))) : W p l e R s m args below meth c H locs 0 0 Q (F0 m pc ls (.int a2 :: .int a1 :: .int a0 :: .ref (ad 47) :: rest)) :=
  call_V (q := (RX1, TX1, 9)) (n := 3) (As := [.int a0, .int a1, .int a2]) (rv := some (.int q.1)) 47 1 F K E hA Z (c_X1_joined_F1 (l := l) (D := D) (ad := ad) (cy := cy) (ee := ee) hf) ⟨wd195, wd740, wd196, wd197, wd17⟩ (by decide +kernel) rfl rfl hR rfl hl hst hd kk
theorem krX0_48_X1_find_F0 {n : Nat} {a0 : Int32} {a1 : Int32} {a2 : Int32} {q : (Int32 × StT)} (F : CallFix p m c cc nL s args (cw :: Gw) RX0) (K : va_K D vwCl (tyL cy) s) (E : EV ee A s s.heap) (hA : ∀ q, s.heap.size ≤ q → A q) (Z : ZG D (wC ad cy st) A s H locs) (hf : f_X1_find_F0 n st a0 a1 a2 = some q) (hR : 2 ≤ R.frames ∧ 49 ≤ R.locals) (hl : ls.size = nL) (hst : (rest.map fun v => v.category).sum ≤ 8) (hd : decode cc pc = .ok (.invokevirtual 48, 3)) (kk : ∀ (H1 : Heap) (locs1 : List Loc), ZG D (wC ad cy q.2) A s H1 locs1 → W p l e R s m args below meth c H1 locs1 0 0 Q (F0 m (pc + 3) ls (.int q.1 :: rest))) : W p l e R s m args below meth c H locs 0 0 Q (F0 m pc ls (.int a2 :: .int a1 :: .int a0 :: .ref (ad 4) :: rest)) :=
  call_V (q := (RX1, TX1, 9)) (n := 3) (As := [.int a0, .int a1, .int a2]) (rv := some (.int q.1)) 4 1 F K E hA Z (c_X1_find_F0 (l := l) (D := D) (ad := ad) (cy := cy) (ee := ee) hf) ⟨wd39, wd741, wd40, wd41, wd17⟩ (by decide +kernel) rfl rfl hR rfl hl hst hd kk
end
set_option maxRecDepth 100000 in
set_option maxHeartbeats 4000000 in
theorem c_X0_joined {l : Launch} {D : va_G} {ad : Nat → Nat} {cy : Nat → ClassId} {ee : EE} {n : Nat} {st : StT} {x1 : Int32} {x2 : Int32} {x3 : Int32} {res : (Int32 × StT)} (hf : f_X0_joined n st x1 x2 x3 = some res) : CT l yX0_joined cX0_joined 6 (some .int) 2 51 D cy ee (wC ad cy st) (wC ad cy res.2) [.ref (ad 46), .int x1, .int x2, .int x3] (some (.int res.1)) := by
  refine CT.of (by decide +kernel) (Nat.le_of_ble_eq_true rfl) ?_
  intro p e s m args below meth c A F hr hk K E hA Z ls hl
  have hl : lv_has ls 6 [(0, .ref (ad 46)), (1, .int x1), (2, .int x2), (3, .int x3)] := hl
  have hx := F.1
  have hb := F.2.1
  unfold f_X0_joined at hf
  refine lv_iload_n hx hb dX0_joined_0 rfl (lv_at hl 2 rfl) ?_
  refine lv_if_lt (tgt := 8) hx hb dX0_joined_1 (by decide) (fun c1 => ?_) (fun c1 => ?_)
  · have hf := if_t c1 hf
    refine lv_iconst (v := -1) hx hb dX0_joined_8 (by decide) ?_
    have hf := Option.some.inj hf
    subst hf
    exact ret_i F hr hk Z dX0_joined_9
  have hf := if_f c1 hf
  refine lv_iload_n hx hb dX0_joined_4 rfl (lv_at hl 3 rfl) ?_
  refine lv_if_ge (tgt := 10) hx hb dX0_joined_5 (by decide) (fun c5 => ?_) (fun c5 => ?_)
  · have hf := if_t c5 hf
    refine lv_aload_n hx hb dX0_joined_10 rfl (lv_at hl 0 rfl) ?_
    refine grX0_24_46 F K Z dX0_joined_11 ?_
    refine lv_iload_n hx hb dX0_joined_14 rfl (lv_at hl 1 rfl) ?_
    refine lv_iload_n hx hb dX0_joined_15 rfl (lv_at hl 2 rfl) ?_
    refine lv_iload_n hx hb dX0_joined_16 rfl (lv_at hl 3 rfl) ?_
    obtain ⟨q17, h17, hf⟩ := bind_some hf
    refine krX0_48_X1_find_F0 F K E hA Z h17 ⟨Nat.le_of_ble_eq_true rfl, Nat.le_of_ble_eq_true rfl⟩ hl.1 (Nat.le_of_ble_eq_true rfl) dX0_joined_17 (fun H locs Z => ?_)
    refine lv_istore (lv' := [(4, .int q17.1), (0, .ref (ad 46)), (1, .int x1), (2, .int x2), (3, .int x3)]) hx hb dX0_joined_20 hl (by decide) rfl (fun ls hl => ?_)
    refine lv_iload hx hb dX0_joined_22 (lv_at hl 0 rfl) ?_
    refine lv_if_lt (tgt := 30) hx hb dX0_joined_24 (by decide) (fun c24 => ?_) (fun c24 => ?_)
    · have hf := if_t c24 hf
      refine lv_aload_n hx hb dX0_joined_30 rfl (lv_at hl 1 rfl) ?_
      refine grX0_14_46 F K Z dX0_joined_31 ?_
      refine lv_iload_n hx hb dX0_joined_34 rfl (lv_at hl 2 rfl) ?_
      refine lv_iload_n hx hb dX0_joined_35 rfl (lv_at hl 3 rfl) ?_
      refine lv_iload_n hx hb dX0_joined_36 rfl (lv_at hl 4 rfl) ?_
      obtain ⟨q37, h37, hf⟩ := bind_some hf
      refine krX0_52_X1_joined_F1 F K E hA Z h37 ⟨Nat.le_of_ble_eq_true rfl, Nat.le_of_ble_eq_true rfl⟩ hl.1 (Nat.le_of_ble_eq_true rfl) dX0_joined_37 (fun H locs Z => ?_)
      refine lv_istore (lv' := [(5, .int q37.1), (4, .int q17.1), (0, .ref (ad 46)), (1, .int x1), (2, .int x2), (3, .int x3)]) hx hb dX0_joined_40 hl (by decide) rfl (fun ls hl => ?_)
      refine lv_iload hx hb dX0_joined_42 (lv_at hl 0 rfl) ?_
      refine lv_if_ge (tgt := 51) hx hb dX0_joined_44 (by decide) (fun c44 => ?_) (fun c44 => ?_)
      · have hf := if_t c44 hf
        refine lv_sipush (v := 2000) hx hb dX0_joined_51 (by decide) ?_
        refine lv_iload hx hb dX0_joined_54 (lv_at hl 0 rfl) ?_
        refine lv_iadd hx hb dX0_joined_56 ?_
        have hf := Option.some.inj hf
        subst hf
        exact ret_i F hr hk Z dX0_joined_57
      have hf := if_f c44 hf
      refine lv_iconst (v := -1) hx hb dX0_joined_47 (by decide) ?_
      refine lv_goto (tgt := 57) hx hb dX0_joined_48 (by decide) ?_
      have hf := Option.some.inj hf
      subst hf
      exact ret_i F hr hk Z dX0_joined_57
    have hf := if_f c24 hf
    refine lv_iload hx hb dX0_joined_27 (lv_at hl 0 rfl) ?_
    have hf := Option.some.inj hf
    subst hf
    exact ret_i F hr hk Z dX0_joined_29
  have hf := if_f c5 hf
  refine lv_iconst (v := -1) hx hb dX0_joined_8 (by decide) ?_
  have hf := Option.some.inj hf
  subst hf
  exact ret_i F hr hk Z dX0_joined_9

def f_X0_hypothesis (n : Nat) (st : StT) (x1 : Int32) (x2 : Int32) : Option (Int32 × StT) := if x1 < 0 then (some ((-1 : Int32), st)) else (if x2 ≤ x1 then (some ((-1 : Int32), st)) else (if (60 : Int32) ≤ x1 then (some ((-1 : Int32), st)) else (if inB x1 60 = true then (some ((st.2.1 40 (x1).toNatClampNeg), st)) else none)))
section
variable {p : Program} {l : Launch} {e : Env} {R : Room} {s : State} {m : MethodId} {args : Array Value} {below : List Frame} {meth : Method} {c : Code} {H : Heap} {locs : List Loc} {Q : State → Prop}
variable {cc : ByteArray} {nL pc : Nat} {ls : Array Slot} {rest : List Value} {D : va_G} {A : Nat → Prop} {cw : Cond} {ad : Nat → Nat} {cy : Nat → ClassId} {ee : EE} {st : StT} {own : String}
theorem al54 {i : Int32} (F : CallFix p m c cc nL s args (cw :: Gw) own) (K : va_K D vwCl (tyL cy) s) (Z : ZG D (wC ad cy st) A s H locs) (hi : inB i 60 = true) (hd : decode cc pc = .ok (.iaload, 1)) (kk : W p l e R s m args below meth c H locs 0 0 Q (F0 m (pc + 1) ls (.int (st.2.1 40 i.toNatClampNeg) :: rest))) : W p l e R s m args below meth c H locs 0 0 Q (F0 m pc ls (.int i :: .ref (ad 54) :: rest)) :=
  va_iald F.1 F.2.1 K Z.1 54 1 rfl rfl (inB_vp hi) hd kk
end
set_option maxRecDepth 100000 in
set_option maxHeartbeats 4000000 in
theorem c_X0_hypothesis {l : Launch} {D : va_G} {ad : Nat → Nat} {cy : Nat → ClassId} {ee : EE} {n : Nat} {st : StT} {x1 : Int32} {x2 : Int32} {res : (Int32 × StT)} (hf : f_X0_hypothesis n st x1 x2 = some res) : CT l yX0_hypothesis cX0_hypothesis 3 (some .int) 0 0 D cy ee (wC ad cy st) (wC ad cy res.2) [.ref (ad 46), .int x1, .int x2] (some (.int res.1)) := by
  refine CT.of (by decide +kernel) (Nat.le_of_ble_eq_true rfl) ?_
  intro p e s m args below meth c A F hr hk K E hA Z ls hl
  have hl : lv_has ls 3 [(0, .ref (ad 46)), (1, .int x1), (2, .int x2)] := hl
  have hx := F.1
  have hb := F.2.1
  unfold f_X0_hypothesis at hf
  refine lv_iload_n hx hb dX0_hypothesis_0 rfl (lv_at hl 1 rfl) ?_
  refine lv_if_lt (tgt := 24) hx hb dX0_hypothesis_1 (by decide) (fun c1 => ?_) (fun c1 => ?_)
  · have hf := if_t c1 hf
    refine lv_iconst (v := -1) hx hb dX0_hypothesis_24 (by decide) ?_
    have hf := Option.some.inj hf
    subst hf
    exact ret_i F hr hk Z dX0_hypothesis_25
  have hf := if_f c1 hf
  refine lv_iload_n hx hb dX0_hypothesis_4 rfl (lv_at hl 1 rfl) ?_
  refine lv_iload_n hx hb dX0_hypothesis_5 rfl (lv_at hl 2 rfl) ?_
  refine lv_icmp_ge (tgt := 24) hx hb dX0_hypothesis_6 (by decide) (fun c6 => ?_) (fun c6 => ?_)
  · have hf := if_t c6 hf
    refine lv_iconst (v := -1) hx hb dX0_hypothesis_24 (by decide) ?_
    have hf := Option.some.inj hf
    subst hf
    exact ret_i F hr hk Z dX0_hypothesis_25
  have hf := if_f c6 hf
  refine lv_iload_n hx hb dX0_hypothesis_9 rfl (lv_at hl 1 rfl) ?_
  refine lv_bipush (v := 60) hx hb dX0_hypothesis_10 (by decide) ?_
  refine lv_icmp_ge (tgt := 24) hx hb dX0_hypothesis_12 (by decide) (fun c12 => ?_) (fun c12 => ?_)
  · have hf := if_t c12 hf
    refine lv_iconst (v := -1) hx hb dX0_hypothesis_24 (by decide) ?_
    have hf := Option.some.inj hf
    subst hf
    exact ret_i F hr hk Z dX0_hypothesis_25
  have hf := if_f c12 hf
  refine lv_aload_n hx hb dX0_hypothesis_15 rfl (lv_at hl 0 rfl) ?_
  refine grX0_20_46 F K Z dX0_hypothesis_16 ?_
  refine lv_iload_n hx hb dX0_hypothesis_19 rfl (lv_at hl 1 rfl) ?_
  obtain ⟨i20, hf⟩ := if_some hf
  refine al54 F K Z i20 dX0_hypothesis_20 ?_
  refine lv_goto (tgt := 25) hx hb dX0_hypothesis_21 (by decide) ?_
  have hf := Option.some.inj hf
  subst hf
  exact ret_i F hr hk Z dX0_hypothesis_25

def g_X0_isProof (n : Nat) (r_X0_isProof : StT → Int32 → Int32 → Int32 → Int32 → Option (Int32 × StT)) (r_X0_formulaOf : StT → Int32 → Int32 → Int32 → Option (Int32 × StT)) (st : StT) (x1 : Int32) (x2 : Int32) (x3 : Int32) (x4 : Int32) : Option (Int32 × StT) := if x2 < 0 then (some ((0 : Int32), st)) else (if x4 ≤ (40 : Int32) then ((f_X7_partOf_T0 n st x1 (0 : Int32)).bind fun q19 => ((f_X7_partOf_T0 n q19.2 x1 (1 : Int32)).bind fun q30 => ((f_X7_kindOf_T0 n q30.2 x1).bind fun q40 => (if q40.1 = 67 then ((r_X0_formulaOf q40.2 q19.1 x3 (x4 + (1 : Int32))).bind fun q307 => ((f_X0_kindOf n q307.2 q307.1).bind fun q315 => (if q315.1 = (4 : Int32) then ((f_X0_firstOf n q315.2 q307.1).bind fun q326 => ((f_X0_binds n q326.2 q326.1 x3).bind fun q330 => (if q330.1 = 0 then (some ((0 : Int32), q330.2)) else ((r_X0_isProof q330.2 q30.1 x2 (x3 + (1 : Int32)) (x4 + (1 : Int32))).bind fun q347 => (if q347.1 = 0 then (some ((0 : Int32), q347.2)) else ((f_X0_secondOf n q347.2 q307.1).bind fun q357 => ((f_X0_binds n q357.2 q357.1 x3).bind fun q361 => (if q361.1 = 0 then (some ((0 : Int32), q361.2)) else ((f_X7_partOf_T0 n q361.2 x1 (2 : Int32)).bind fun q374 => ((r_X0_isProof q374.2 q374.1 x2 (x3 + (1 : Int32)) (x4 + (1 : Int32))).bind fun q385 => (if q385.1 = 0 then (some ((0 : Int32), q385.2)) else (some ((1 : Int32), q385.2))))))))))))) else (some ((0 : Int32), q315.2))))) else (if q40.1 = 73 then ((f_X0_kindOf n q40.2 x2).bind fun q220 => (if q220.1 = (4 : Int32) then ((f_X0_firstOf n q220.2 x2).bind fun q232 => ((r_X0_isProof q232.2 q19.1 q232.1 x3 (x4 + (1 : Int32))).bind fun q240 => (if q240.1 = 0 then (some ((0 : Int32), q240.2)) else (some ((1 : Int32), q240.2))))) else (some ((0 : Int32), q220.2)))) else (if q40.1 = 74 then ((f_X0_kindOf n q40.2 x2).bind fun q254 => (if q254.1 = (4 : Int32) then ((f_X0_secondOf n q254.2 x2).bind fun q266 => ((r_X0_isProof q266.2 q19.1 q266.1 x3 (x4 + (1 : Int32))).bind fun q274 => (if q274.1 = 0 then (some ((0 : Int32), q274.2)) else (some ((1 : Int32), q274.2))))) else (some ((0 : Int32), q254.2)))) else (if q40.1 = 76 then ((f_X0_kindOf n q40.2 x2).bind fun q102 => (if q102.1 = (5 : Int32) then ((f_X0_firstOf n q102.2 x2).bind fun q111 => ((f_X7_formulaOf_T0 n q111.2 x1).bind fun q119 => (if q111.1 = q119.1 then ((f_X0_firstOf n q119.2 x2).bind fun q128 => ((f_X0_binds n q128.2 q128.1 x3).bind fun q132 => (if q132.1 = 0 then (some ((0 : Int32), q132.2)) else ((f_X0_secondOf n q132.2 x2).bind fun q143 => ((r_X0_isProof q143.2 q19.1 q143.1 (x3 + (1 : Int32)) (x4 + (1 : Int32))).bind fun q153 => (if q153.1 = 0 then (some ((0 : Int32), q153.2)) else (some ((1 : Int32), q153.2)))))))) else (some ((0 : Int32), q119.2))))) else (some ((0 : Int32), q102.2)))) else (if q40.1 = 80 then ((f_X0_kindOf n q40.2 x2).bind fun q167 => (if q167.1 = (3 : Int32) then ((f_X0_firstOf n q167.2 x2).bind fun q179 => ((r_X0_isProof q179.2 q19.1 q179.1 x3 (x4 + (1 : Int32))).bind fun q187 => (if q187.1 = 0 then (some ((0 : Int32), q187.2)) else ((f_X0_secondOf n q187.2 x2).bind fun q198 => ((r_X0_isProof q198.2 q30.1 q198.1 x3 (x4 + (1 : Int32))).bind fun q206 => (if q206.1 = 0 then (some ((0 : Int32), q206.2)) else (some ((1 : Int32), q206.2)))))))) else (some ((0 : Int32), q167.2)))) else (if q40.1 = 88 then ((r_X0_isProof q40.2 q19.1 (0 : Int32) x3 (x4 + (1 : Int32))).bind fun q295 => (if isZ q295.1 = true then some (q295.1, q295.2) else none)) else ((r_X0_formulaOf q40.2 x1 x3 x4).bind fun q402 => (if q402.1 = x2 then (some ((1 : Int32), q402.2)) else (some ((0 : Int32), q402.2))))))))))))) else (some ((0 : Int32), st)))
def g_X0_formulaOf (n : Nat) (r_X0_isProof : StT → Int32 → Int32 → Int32 → Int32 → Option (Int32 × StT)) (r_X0_formulaOf : StT → Int32 → Int32 → Int32 → Option (Int32 × StT)) (st : StT) (x1 : Int32) (x2 : Int32) (x3 : Int32) : Option (Int32 × StT) := if x3 ≤ (40 : Int32) then ((f_X7_partOf_T0 n st x1 (0 : Int32)).bind fun q14 => ((f_X7_kindOf_T0 n q14.2 x1).bind fun q24 => (if q24.1 = 65 then ((r_X0_formulaOf q24.2 q14.1 x2 (x3 + (1 : Int32))).bind fun q190 => ((f_X0_kindOf n q190.2 q190.1).bind fun q198 => (if q198.1 = (5 : Int32) then ((f_X7_partOf_T0 n q198.2 x1 (1 : Int32)).bind fun q212 => ((f_X0_firstOf n q212.2 q190.1).bind fun q218 => ((r_X0_isProof q218.2 q212.1 q218.1 x2 (x3 + (1 : Int32))).bind fun q225 => (if q225.1 = 0 then (some ((-1 : Int32), q225.2)) else ((f_X0_secondOf n q225.2 q190.1).bind fun q234 => (some (q234.1, q234.2))))))) else (some ((-1 : Int32), q198.2))))) else (if q24.1 = 70 then ((r_X0_formulaOf q24.2 q14.1 x2 (x3 + (1 : Int32))).bind fun q249 => ((f_X0_kindOf n q249.2 q249.1).bind fun q257 => (if q257.1 = (3 : Int32) then ((f_X0_firstOf n q257.2 q249.1).bind fun q267 => (some (q267.1, q267.2))) else (some ((-1 : Int32), q257.2))))) else (if q24.1 = 76 then ((f_X7_formulaOf_T0 n q24.2 x1).bind fun q107 => ((f_X0_binds n q107.2 q107.1 x2).bind fun q116 => (if q116.1 = 0 then (some ((-1 : Int32), q116.2)) else ((r_X0_formulaOf q116.2 q14.1 (x2 + (1 : Int32)) (x3 + (1 : Int32))).bind fun q135 => ((f_X0_joined n q135.2 (5 : Int32) q107.1 q135.1).bind fun q138 => (some (q138.1, q138.2))))))) else (if q24.1 = 80 then ((r_X0_formulaOf q24.2 q14.1 x2 (x3 + (1 : Int32))).bind fun q153 => ((f_X7_partOf_T0 n q153.2 x1 (1 : Int32)).bind fun q169 => ((r_X0_formulaOf q169.2 q169.1 x2 (x3 + (1 : Int32))).bind fun q176 => ((f_X0_joined n q176.2 (3 : Int32) q153.1 q176.1).bind fun q179 => (some (q179.1, q179.2)))))) else (if q24.1 = 83 then ((r_X0_formulaOf q24.2 q14.1 x2 (x3 + (1 : Int32))).bind fun q282 => ((f_X0_kindOf n q282.2 q282.1).bind fun q290 => (if q290.1 = (3 : Int32) then ((f_X0_secondOf n q290.2 q282.1).bind fun q300 => (some (q300.1, q300.2))) else (some ((-1 : Int32), q290.2))))) else (if q24.1 = 84 then (some ((1 : Int32), q24.2)) else (if q24.1 = 104 then ((f_X0_hypothesis n q24.2 q14.1 x2).bind fun q96 => (some (q96.1, q96.2))) else (some ((-1 : Int32), q24.2))))))))))) else (some ((-1 : Int32), st))
theorem wd742 : Cond.methodLink RX0 72 yX0_formulaOf ∈ Gw := gT5 (List.mem_of_getElem? (i := 116) rfl) rfl
theorem wd743 : Cond.code yX0_formulaOf prog_2_method_10_code 10 (some .int) ∈ Gw := gT5 (List.mem_of_getElem? (i := 119) rfl) rfl
theorem wd744 : Cond.instanceMethod yX0_formulaOf ∈ Gw := gT5 (List.mem_of_getElem? (i := 118) rfl) rfl
theorem wd745 : Cond.selects RX0 yX0_formulaOf yX0_formulaOf ∈ Gw := gP4 (q := (yX0_formulaOf, 4)) (List.mem_of_getElem? (i := 9) rfl)
theorem wd746 : Cond.initialized RX0 ∈ Gw := gT1 (List.mem_of_getElem? (i := 11) rfl) rfl
theorem wd747 : Cond.methodLink RX0 34 yX0_isProof ∈ Gw := gT5 (List.mem_of_getElem? (i := 90) rfl) rfl
theorem wd748 : Cond.code yX0_isProof prog_2_method_9_code 8 (some .boolean) ∈ Gw := gT5 (List.mem_of_getElem? (i := 93) rfl) rfl
theorem wd749 : Cond.instanceMethod yX0_isProof ∈ Gw := gT5 (List.mem_of_getElem? (i := 92) rfl) rfl
theorem wd750 : Cond.selects RX0 yX0_isProof yX0_isProof ∈ Gw := gP4 (q := (yX0_isProof, 4)) (List.mem_of_getElem? (i := 4) rfl)
theorem wd751 : Cond.methodLink RX0 55 yX7_partOf ∈ Gw := gT5 (List.mem_of_getElem? (i := 94) rfl) rfl
theorem wd752 : Cond.methodLink RX0 67 yX0_binds ∈ Gw := gT5 (List.mem_of_getElem? (i := 107) rfl) rfl
theorem wd753 : Cond.code yX0_binds prog_2_method_8_code 3 (some .boolean) ∈ Gw := gT5 (List.mem_of_getElem? (i := 110) rfl) rfl
theorem wd754 : Cond.instanceMethod yX0_binds ∈ Gw := gT5 (List.mem_of_getElem? (i := 109) rfl) rfl
theorem wd755 : Cond.selects RX0 yX0_binds yX0_binds ∈ Gw := gP4 (q := (yX0_binds, 4)) (List.mem_of_getElem? (i := 7) rfl)
theorem wd756 : Cond.methodLink RX0 71 yX0_secondOf ∈ Gw := gT5 (List.mem_of_getElem? (i := 111) rfl) rfl
theorem wd757 : Cond.code yX0_secondOf prog_2_method_5_code 2 (some .int) ∈ Gw := gT5 (List.mem_of_getElem? (i := 114) rfl) rfl
theorem wd758 : Cond.instanceMethod yX0_secondOf ∈ Gw := gT5 (List.mem_of_getElem? (i := 113) rfl) rfl
theorem wd759 : Cond.selects RX0 yX0_secondOf yX0_secondOf ∈ Gw := gP4 (q := (yX0_secondOf, 4)) (List.mem_of_getElem? (i := 8) rfl)
theorem wd760 : Cond.methodLink RX0 63 yX0_firstOf ∈ Gw := gT5 (List.mem_of_getElem? (i := 101) rfl) rfl
theorem wd761 : Cond.code yX0_firstOf prog_2_method_4_code 2 (some .int) ∈ Gw := gT5 (List.mem_of_getElem? (i := 104) rfl) rfl
theorem wd762 : Cond.instanceMethod yX0_firstOf ∈ Gw := gT5 (List.mem_of_getElem? (i := 103) rfl) rfl
theorem wd763 : Cond.selects RX0 yX0_firstOf yX0_firstOf ∈ Gw := gP4 (q := (yX0_firstOf, 4)) (List.mem_of_getElem? (i := 6) rfl)
theorem wd764 : Cond.methodLink RX0 62 yX0_kindOf ∈ Gw := gT5 (List.mem_of_getElem? (i := 96) rfl) rfl
theorem wd765 : Cond.code yX0_kindOf prog_2_method_3_code 2 (some .int) ∈ Gw := gT5 (List.mem_of_getElem? (i := 99) rfl) rfl
theorem wd766 : Cond.instanceMethod yX0_kindOf ∈ Gw := gT5 (List.mem_of_getElem? (i := 98) rfl) rfl
theorem wd767 : Cond.selects RX0 yX0_kindOf yX0_kindOf ∈ Gw := gP4 (q := (yX0_kindOf, 4)) (List.mem_of_getElem? (i := 5) rfl)
theorem wd768 : Cond.methodLink RX0 64 yX7_formulaOf ∈ Gw := gT5 (List.mem_of_getElem? (i := 106) rfl) rfl
theorem wd769 : Cond.methodLink RX0 61 yX7_kindOf ∈ Gw := gT5 (List.mem_of_getElem? (i := 95) rfl) rfl
theorem wd770 : Cond.methodLink RX0 77 yX0_joined ∈ Gw := gT5 (List.mem_of_getElem? (i := 124) rfl) rfl
theorem wd771 : Cond.code yX0_joined prog_2_method_6_code 6 (some .int) ∈ Gw := gT5 (List.mem_of_getElem? (i := 127) rfl) rfl
theorem wd772 : Cond.instanceMethod yX0_joined ∈ Gw := gT5 (List.mem_of_getElem? (i := 126) rfl) rfl
theorem wd773 : Cond.selects RX0 yX0_joined yX0_joined ∈ Gw := gP4 (q := (yX0_joined, 4)) (List.mem_of_getElem? (i := 11) rfl)
theorem wd774 : Cond.methodLink RX0 74 yX0_hypothesis ∈ Gw := gT5 (List.mem_of_getElem? (i := 120) rfl) rfl
theorem wd775 : Cond.code yX0_hypothesis prog_2_method_7_code 3 (some .int) ∈ Gw := gT5 (List.mem_of_getElem? (i := 123) rfl) rfl
theorem wd776 : Cond.instanceMethod yX0_hypothesis ∈ Gw := gT5 (List.mem_of_getElem? (i := 122) rfl) rfl
theorem wd777 : Cond.selects RX0 yX0_hypothesis yX0_hypothesis ∈ Gw := gP4 (q := (yX0_hypothesis, 4)) (List.mem_of_getElem? (i := 10) rfl)
section
variable {p : Program} {l : Launch} {e : Env} {R : Room} {s : State} {m : MethodId} {args : Array Value} {below : List Frame} {meth : Method} {c : Code} {H : Heap} {locs : List Loc} {Q : State → Prop}
variable {cc : ByteArray} {nL pc : Nat} {ls : Array Slot} {rest : List Value} {D : va_G} {A : Nat → Prop} {cw : Cond} {ad : Nat → Nat} {cy : Nat → ClassId} {ee : EE} {st : StT} {own : String}
theorem kroX0_72_X0_formulaOf {a0 : Int32} {a1 : Int32} {a2 : Int32} {q : (Int32 × StT)} (F : CallFix p m c cc nL s args (cw :: Gw) RX0) (K : va_K D vwCl (tyL cy) s) (E : EV ee A s s.heap) (hA : ∀ q, s.heap.size ≤ q → A q) (Z : ZG D (wC ad cy st) A s H locs) {fr lo : Nat} (hf : CT l yX0_formulaOf cX0_formulaOf 10 (some .int) fr lo D cy ee (wC ad cy st) (wC ad cy q.2) [.ref (ad 46), .int a0, .int a1, .int a2] (some (.int q.1))) (hR : fr + 1 ≤ R.frames ∧ 29 + lo ≤ R.locals) (hl : ls.size = nL) (hst : (rest.map fun v => v.category).sum ≤ 8) (hd : decode cc pc = .ok (.invokevirtual 72, 3)) (kk : ∀ (H1 : Heap) (locs1 : List Loc), ZG D (wC ad cy q.2) A s H1 locs1 → W p l e R s m args below meth c H1 locs1 0 0 Q (F0 m (pc + 3) ls (.int q.1 :: rest))) : W p l e R s m args below meth c H locs 0 0 Q (F0 m pc ls (.int a2 :: .int a1 :: .int a0 :: .ref (ad 46) :: rest)) :=
  call_V (q := (RX0, TX0, 4)) (n := 3) (As := [.int a0, .int a1, .int a2]) (rv := some (.int q.1)) 46 0 F K E hA Z (hf) ⟨wd743, wd742, wd744, wd745, wd746⟩ (by decide +kernel) rfl rfl hR rfl hl hst hd kk
theorem kroX0_34_X0_isProof {a0 : Int32} {a1 : Int32} {a2 : Int32} {a3 : Int32} {q : (Int32 × StT)} (F : CallFix p m c cc nL s args (cw :: Gw) RX0) (K : va_K D vwCl (tyL cy) s) (E : EV ee A s s.heap) (hA : ∀ q, s.heap.size ≤ q → A q) (Z : ZG D (wC ad cy st) A s H locs) {fr lo : Nat} (hf : CT l yX0_isProof cX0_isProof 8 (some .boolean) fr lo D cy ee (wC ad cy st) (wC ad cy q.2) [.ref (ad 46), .int a0, .int a1, .int a2, .int a3] (some (.int q.1))) (hR : fr + 1 ≤ R.frames ∧ 27 + lo ≤ R.locals) (hl : ls.size = nL) (hst : (rest.map fun v => v.category).sum ≤ 8) (hd : decode cc pc = .ok (.invokevirtual 34, 3)) (kk : ∀ (H1 : Heap) (locs1 : List Loc), ZG D (wC ad cy q.2) A s H1 locs1 → W p l e R s m args below meth c H1 locs1 0 0 Q (F0 m (pc + 3) ls (.int q.1 :: rest))) : W p l e R s m args below meth c H locs 0 0 Q (F0 m pc ls (.int a3 :: .int a2 :: .int a1 :: .int a0 :: .ref (ad 46) :: rest)) :=
  call_V (q := (RX0, TX0, 4)) (n := 4) (As := [.int a0, .int a1, .int a2, .int a3]) (rv := some (.int q.1)) 46 0 F K E hA Z (hf) ⟨wd748, wd747, wd749, wd750, wd746⟩ (by decide +kernel) rfl rfl hR rfl hl hst hd kk
theorem krX0_55_X7_partOf_T0 {n : Nat} {a0 : Int32} {a1 : Int32} {q : (Int32 × StT)} (F : CallFix p m c cc nL s args (cw :: Gw) RX0) (K : va_K D vwCl (tyL cy) s) (E : EV ee A s s.heap) (hA : ∀ q, s.heap.size ≤ q → A q) (Z : ZG D (wC ad cy st) A s H locs) (hf : f_X7_partOf_T0 n st a0 a1 = some q) (hR : 2 ≤ R.frames ∧ 43 ≤ R.locals) (hl : ls.size = nL) (hst : (rest.map fun v => v.category).sum ≤ 8) (hd : decode cc pc = .ok (.invokevirtual 55, 3)) (kk : ∀ (H1 : Heap) (locs1 : List Loc), ZG D (wC ad cy q.2) A s H1 locs1 → W p l e R s m args below meth c H1 locs1 0 0 Q (F0 m (pc + 3) ls (.int q.1 :: rest))) : W p l e R s m args below meth c H locs 0 0 Q (F0 m pc ls (.int a1 :: .int a0 :: .ref (ad 12) :: rest)) :=
  call_V (q := (RX7, TX7, 7)) (n := 2) (As := [.int a0, .int a1]) (rv := some (.int q.1)) 12 7 F K E hA Z (c_X7_partOf_T0 (l := l) (D := D) (ad := ad) (cy := cy) (ee := ee) hf) ⟨wd66, wd751, wd67, wd68, wd60⟩ (by decide +kernel) rfl rfl hR rfl hl hst hd kk
theorem krX0_67_X0_binds {n : Nat} {a0 : Int32} {a1 : Int32} {q : (Int32 × StT)} (F : CallFix p m c cc nL s args (cw :: Gw) RX0) (K : va_K D vwCl (tyL cy) s) (E : EV ee A s s.heap) (hA : ∀ q, s.heap.size ≤ q → A q) (Z : ZG D (wC ad cy st) A s H locs) (hf : f_X0_binds n st a0 a1 = some q) (hR : 1 ≤ R.frames ∧ 22 ≤ R.locals) (hl : ls.size = nL) (hst : (rest.map fun v => v.category).sum ≤ 8) (hd : decode cc pc = .ok (.invokevirtual 67, 3)) (kk : ∀ (H1 : Heap) (locs1 : List Loc), ZG D (wC ad cy q.2) A s H1 locs1 → W p l e R s m args below meth c H1 locs1 0 0 Q (F0 m (pc + 3) ls (.int q.1 :: rest))) : W p l e R s m args below meth c H locs 0 0 Q (F0 m pc ls (.int a1 :: .int a0 :: .ref (ad 46) :: rest)) :=
  call_V (q := (RX0, TX0, 4)) (n := 2) (As := [.int a0, .int a1]) (rv := some (.int q.1)) 46 0 F K E hA Z (c_X0_binds (l := l) (D := D) (ad := ad) (cy := cy) (ee := ee) hf) ⟨wd753, wd752, wd754, wd755, wd746⟩ (by decide +kernel) rfl rfl hR rfl hl hst hd kk
theorem krX0_71_X0_secondOf {n : Nat} {a0 : Int32} {q : (Int32 × StT)} (F : CallFix p m c cc nL s args (cw :: Gw) RX0) (K : va_K D vwCl (tyL cy) s) (E : EV ee A s s.heap) (hA : ∀ q, s.heap.size ≤ q → A q) (Z : ZG D (wC ad cy st) A s H locs) (hf : f_X0_secondOf n st a0 = some q) (hR : 3 ≤ R.frames ∧ 63 ≤ R.locals) (hl : ls.size = nL) (hst : (rest.map fun v => v.category).sum ≤ 8) (hd : decode cc pc = .ok (.invokevirtual 71, 3)) (kk : ∀ (H1 : Heap) (locs1 : List Loc), ZG D (wC ad cy q.2) A s H1 locs1 → W p l e R s m args below meth c H1 locs1 0 0 Q (F0 m (pc + 3) ls (.int q.1 :: rest))) : W p l e R s m args below meth c H locs 0 0 Q (F0 m pc ls (.int a0 :: .ref (ad 46) :: rest)) :=
  call_V (q := (RX0, TX0, 4)) (n := 1) (As := [.int a0]) (rv := some (.int q.1)) 46 0 F K E hA Z (c_X0_secondOf (l := l) (D := D) (ad := ad) (cy := cy) (ee := ee) hf) ⟨wd757, wd756, wd758, wd759, wd746⟩ (by decide +kernel) rfl rfl hR rfl hl hst hd kk
theorem krX0_63_X0_firstOf {n : Nat} {a0 : Int32} {q : (Int32 × StT)} (F : CallFix p m c cc nL s args (cw :: Gw) RX0) (K : va_K D vwCl (tyL cy) s) (E : EV ee A s s.heap) (hA : ∀ q, s.heap.size ≤ q → A q) (Z : ZG D (wC ad cy st) A s H locs) (hf : f_X0_firstOf n st a0 = some q) (hR : 3 ≤ R.frames ∧ 63 ≤ R.locals) (hl : ls.size = nL) (hst : (rest.map fun v => v.category).sum ≤ 8) (hd : decode cc pc = .ok (.invokevirtual 63, 3)) (kk : ∀ (H1 : Heap) (locs1 : List Loc), ZG D (wC ad cy q.2) A s H1 locs1 → W p l e R s m args below meth c H1 locs1 0 0 Q (F0 m (pc + 3) ls (.int q.1 :: rest))) : W p l e R s m args below meth c H locs 0 0 Q (F0 m pc ls (.int a0 :: .ref (ad 46) :: rest)) :=
  call_V (q := (RX0, TX0, 4)) (n := 1) (As := [.int a0]) (rv := some (.int q.1)) 46 0 F K E hA Z (c_X0_firstOf (l := l) (D := D) (ad := ad) (cy := cy) (ee := ee) hf) ⟨wd761, wd760, wd762, wd763, wd746⟩ (by decide +kernel) rfl rfl hR rfl hl hst hd kk
theorem krX0_62_X0_kindOf {n : Nat} {a0 : Int32} {q : (Int32 × StT)} (F : CallFix p m c cc nL s args (cw :: Gw) RX0) (K : va_K D vwCl (tyL cy) s) (E : EV ee A s s.heap) (hA : ∀ q, s.heap.size ≤ q → A q) (Z : ZG D (wC ad cy st) A s H locs) (hf : f_X0_kindOf n st a0 = some q) (hR : 3 ≤ R.frames ∧ 63 ≤ R.locals) (hl : ls.size = nL) (hst : (rest.map fun v => v.category).sum ≤ 8) (hd : decode cc pc = .ok (.invokevirtual 62, 3)) (kk : ∀ (H1 : Heap) (locs1 : List Loc), ZG D (wC ad cy q.2) A s H1 locs1 → W p l e R s m args below meth c H1 locs1 0 0 Q (F0 m (pc + 3) ls (.int q.1 :: rest))) : W p l e R s m args below meth c H locs 0 0 Q (F0 m pc ls (.int a0 :: .ref (ad 46) :: rest)) :=
  call_V (q := (RX0, TX0, 4)) (n := 1) (As := [.int a0]) (rv := some (.int q.1)) 46 0 F K E hA Z (c_X0_kindOf (l := l) (D := D) (ad := ad) (cy := cy) (ee := ee) hf) ⟨wd765, wd764, wd766, wd767, wd746⟩ (by decide +kernel) rfl rfl hR rfl hl hst hd kk
theorem krX0_64_X7_formulaOf_T0 {n : Nat} {a0 : Int32} {q : (Int32 × StT)} (F : CallFix p m c cc nL s args (cw :: Gw) RX0) (K : va_K D vwCl (tyL cy) s) (E : EV ee A s s.heap) (hA : ∀ q, s.heap.size ≤ q → A q) (Z : ZG D (wC ad cy st) A s H locs) (hf : f_X7_formulaOf_T0 n st a0 = some q) (hR : 3 ≤ R.frames ∧ 64 ≤ R.locals) (hl : ls.size = nL) (hst : (rest.map fun v => v.category).sum ≤ 8) (hd : decode cc pc = .ok (.invokevirtual 64, 3)) (kk : ∀ (H1 : Heap) (locs1 : List Loc), ZG D (wC ad cy q.2) A s H1 locs1 → W p l e R s m args below meth c H1 locs1 0 0 Q (F0 m (pc + 3) ls (.int q.1 :: rest))) : W p l e R s m args below meth c H locs 0 0 Q (F0 m pc ls (.int a0 :: .ref (ad 12) :: rest)) :=
  call_V (q := (RX7, TX7, 7)) (n := 1) (As := [.int a0]) (rv := some (.int q.1)) 12 7 F K E hA Z (c_X7_formulaOf_T0 (l := l) (D := D) (ad := ad) (cy := cy) (ee := ee) hf) ⟨wd579, wd768, wd580, wd581, wd60⟩ (by decide +kernel) rfl rfl hR rfl hl hst hd kk
theorem krX0_61_X7_kindOf_T0 {n : Nat} {a0 : Int32} {q : (Int32 × StT)} (F : CallFix p m c cc nL s args (cw :: Gw) RX0) (K : va_K D vwCl (tyL cy) s) (E : EV ee A s s.heap) (hA : ∀ q, s.heap.size ≤ q → A q) (Z : ZG D (wC ad cy st) A s H locs) (hf : f_X7_kindOf_T0 n st a0 = some q) (hR : 2 ≤ R.frames ∧ 42 ≤ R.locals) (hl : ls.size = nL) (hst : (rest.map fun v => v.category).sum ≤ 8) (hd : decode cc pc = .ok (.invokevirtual 61, 3)) (kk : ∀ (H1 : Heap) (locs1 : List Loc), ZG D (wC ad cy q.2) A s H1 locs1 → W p l e R s m args below meth c H1 locs1 0 0 Q (F0 m (pc + 3) ls (.int q.1 :: rest))) : W p l e R s m args below meth c H locs 0 0 Q (F0 m pc ls (.int a0 :: .ref (ad 12) :: rest)) :=
  call_V (q := (RX7, TX7, 7)) (n := 1) (As := [.int a0]) (rv := some (.int q.1)) 12 7 F K E hA Z (c_X7_kindOf_T0 (l := l) (D := D) (ad := ad) (cy := cy) (ee := ee) hf) ⟨wd571, wd769, wd572, wd573, wd60⟩ (by decide +kernel) rfl rfl hR rfl hl hst hd kk
theorem krX0_77_X0_joined {n : Nat} {a0 : Int32} {a1 : Int32} {a2 : Int32} {q : (Int32 × StT)} (F : CallFix p m c cc nL s args (cw :: Gw) RX0) (K : va_K D vwCl (tyL cy) s) (E : EV ee A s s.heap) (hA : ∀ q, s.heap.size ≤ q → A q) (Z : ZG D (wC ad cy st) A s H locs) (hf : f_X0_joined n st a0 a1 a2 = some q) (hR : 3 ≤ R.frames ∧ 76 ≤ R.locals) (hl : ls.size = nL) (hst : (rest.map fun v => v.category).sum ≤ 8) (hd : decode cc pc = .ok (.invokevirtual 77, 3)) (kk : ∀ (H1 : Heap) (locs1 : List Loc), ZG D (wC ad cy q.2) A s H1 locs1 → W p l e R s m args below meth c H1 locs1 0 0 Q (F0 m (pc + 3) ls (.int q.1 :: rest))) : W p l e R s m args below meth c H locs 0 0 Q (F0 m pc ls (.int a2 :: .int a1 :: .int a0 :: .ref (ad 46) :: rest)) :=
  call_V (q := (RX0, TX0, 4)) (n := 3) (As := [.int a0, .int a1, .int a2]) (rv := some (.int q.1)) 46 0 F K E hA Z (c_X0_joined (l := l) (D := D) (ad := ad) (cy := cy) (ee := ee) hf) ⟨wd771, wd770, wd772, wd773, wd746⟩ (by decide +kernel) rfl rfl hR rfl hl hst hd kk
theorem krX0_74_X0_hypothesis {n : Nat} {a0 : Int32} {a1 : Int32} {q : (Int32 × StT)} (F : CallFix p m c cc nL s args (cw :: Gw) RX0) (K : va_K D vwCl (tyL cy) s) (E : EV ee A s s.heap) (hA : ∀ q, s.heap.size ≤ q → A q) (Z : ZG D (wC ad cy st) A s H locs) (hf : f_X0_hypothesis n st a0 a1 = some q) (hR : 1 ≤ R.frames ∧ 22 ≤ R.locals) (hl : ls.size = nL) (hst : (rest.map fun v => v.category).sum ≤ 8) (hd : decode cc pc = .ok (.invokevirtual 74, 3)) (kk : ∀ (H1 : Heap) (locs1 : List Loc), ZG D (wC ad cy q.2) A s H1 locs1 → W p l e R s m args below meth c H1 locs1 0 0 Q (F0 m (pc + 3) ls (.int q.1 :: rest))) : W p l e R s m args below meth c H locs 0 0 Q (F0 m pc ls (.int a1 :: .int a0 :: .ref (ad 46) :: rest)) :=
  call_V (q := (RX0, TX0, 4)) (n := 2) (As := [.int a0, .int a1]) (rv := some (.int q.1)) 46 0 F K E hA Z (c_X0_hypothesis (l := l) (D := D) (ad := ad) (cy := cy) (ee := ee) hf) ⟨wd775, wd774, wd776, wd777, wd746⟩ (by decide +kernel) rfl rfl hR rfl hl hst hd kk
end
set_option maxRecDepth 100000 in
set_option maxHeartbeats 4000000 in
theorem o_X0_isProof {l : Launch} {D : va_G} {ad : Nat → Nat} {cy : Nat → ClassId} {ee : EE} {n : Nat} {frr lor : Nat} (hfr : 3 ≤ frr) (hlo : 76 ≤ lor) {r_X0_isProof : StT → Int32 → Int32 → Int32 → Int32 → Option (Int32 × StT)} (hr_X0_isProof : ∀ (st : StT) (x1 : Int32) (x2 : Int32) (x3 : Int32) (x4 : Int32) (res : (Int32 × StT)), r_X0_isProof st x1 x2 x3 x4 = some res → CT l yX0_isProof cX0_isProof 8 (some .boolean) frr lor D cy ee (wC ad cy st) (wC ad cy res.2) [.ref (ad 46), .int x1, .int x2, .int x3, .int x4] (some (.int res.1))) {r_X0_formulaOf : StT → Int32 → Int32 → Int32 → Option (Int32 × StT)} (hr_X0_formulaOf : ∀ (st : StT) (x1 : Int32) (x2 : Int32) (x3 : Int32) (res : (Int32 × StT)), r_X0_formulaOf st x1 x2 x3 = some res → CT l yX0_formulaOf cX0_formulaOf 10 (some .int) frr lor D cy ee (wC ad cy st) (wC ad cy res.2) [.ref (ad 46), .int x1, .int x2, .int x3] (some (.int res.1))) {st : StT} {x1 : Int32} {x2 : Int32} {x3 : Int32} {x4 : Int32} {res : (Int32 × StT)} (hf : g_X0_isProof n r_X0_isProof r_X0_formulaOf st x1 x2 x3 x4 = some res) : CT l yX0_isProof cX0_isProof 8 (some .boolean) (frr + 1) (lor + 29) D cy ee (wC ad cy st) (wC ad cy res.2) [.ref (ad 46), .int x1, .int x2, .int x3, .int x4] (some (.int res.1)) := by
  refine CT.of (by decide +kernel) (Nat.le_of_ble_eq_true rfl) ?_
  intro p e s m args below meth c A F hr hk K E hA Z ls hl
  have hl : lv_has ls 8 [(0, .ref (ad 46)), (1, .int x1), (2, .int x2), (3, .int x3), (4, .int x4)] := hl
  have hx := F.1
  have hb := F.2.1
  unfold g_X0_isProof at hf
  refine lv_iload_n hx hb dX0_isProof_0 rfl (lv_at hl 2 rfl) ?_
  refine lv_if_lt (tgt := 11) hx hb dX0_isProof_1 (by decide) (fun c1 => ?_) (fun c1 => ?_)
  · have hf := if_t c1 hf
    refine lv_iconst (v := 0) hx hb dX0_isProof_11 (by decide) ?_
    have hf := Option.some.inj hf
    subst hf
    exact ret_z F hr hk Z rfl dX0_isProof_12
  have hf := if_f c1 hf
  refine lv_iload hx hb dX0_isProof_4 (lv_at hl 4 rfl) ?_
  refine lv_bipush (v := 40) hx hb dX0_isProof_6 (by decide) ?_
  refine lv_icmp_le (tgt := 13) hx hb dX0_isProof_8 (by decide) (fun c8 => ?_) (fun c8 => ?_)
  · have hf := if_t c8 hf
    refine lv_aload_n hx hb dX0_isProof_13 rfl (lv_at hl 0 rfl) ?_
    refine grX0_27_46 F K Z dX0_isProof_14 ?_
    refine lv_iload_n hx hb dX0_isProof_17 rfl (lv_at hl 1 rfl) ?_
    refine lv_iconst (v := 0) hx hb dX0_isProof_18 (by decide) ?_
    obtain ⟨q19, h19, hf⟩ := bind_some hf
    refine krX0_55_X7_partOf_T0 F K E hA Z h19 ⟨by show 2 ≤ frr + 1; omega, by show 43 ≤ lor + 29; omega⟩ hl.1 (Nat.le_of_ble_eq_true rfl) dX0_isProof_19 (fun H locs Z => ?_)
    refine lv_istore (lv' := [(5, .int q19.1), (0, .ref (ad 46)), (1, .int x1), (2, .int x2), (3, .int x3), (4, .int x4)]) hx hb dX0_isProof_22 hl (by decide) rfl (fun ls hl => ?_)
    refine lv_aload_n hx hb dX0_isProof_24 rfl (lv_at hl 1 rfl) ?_
    refine grX0_27_46 F K Z dX0_isProof_25 ?_
    refine lv_iload_n hx hb dX0_isProof_28 rfl (lv_at hl 2 rfl) ?_
    refine lv_iconst (v := 1) hx hb dX0_isProof_29 (by decide) ?_
    obtain ⟨q30, h30, hf⟩ := bind_some hf
    refine krX0_55_X7_partOf_T0 F K E hA Z h30 ⟨by show 2 ≤ frr + 1; omega, by show 43 ≤ lor + 29; omega⟩ hl.1 (Nat.le_of_ble_eq_true rfl) dX0_isProof_30 (fun H locs Z => ?_)
    refine lv_istore (lv' := [(6, .int q30.1), (5, .int q19.1), (0, .ref (ad 46)), (1, .int x1), (2, .int x2), (3, .int x3), (4, .int x4)]) hx hb dX0_isProof_33 hl (by decide) rfl (fun ls hl => ?_)
    refine lv_aload_n hx hb dX0_isProof_35 rfl (lv_at hl 2 rfl) ?_
    refine grX0_27_46 F K Z dX0_isProof_36 ?_
    refine lv_iload_n hx hb dX0_isProof_39 rfl (lv_at hl 3 rfl) ?_
    obtain ⟨q40, h40, hf⟩ := bind_some hf
    refine krX0_61_X7_kindOf_T0 F K E hA Z h40 ⟨by show 2 ≤ frr + 1; omega, by show 42 ≤ lor + 29; omega⟩ hl.1 (Nat.le_of_ble_eq_true rfl) dX0_isProof_40 (fun H locs Z => ?_)
    by_cases c43_67 : q40.1 = 67
    · have hf := if_t c43_67 hf
      refine lv_lookup (tgt := 299) hx hb dX0_isProof_43 (by decide) (by rw [c43_67] <;> decide) (by decide) ?_
      refine lv_aload_n hx hb dX0_isProof_299 rfl (lv_at hl 2 rfl) ?_
      refine lv_iload hx hb dX0_isProof_300 (lv_at hl 1 rfl) ?_
      refine lv_iload_n hx hb dX0_isProof_302 rfl (lv_at hl 5 rfl) ?_
      refine lv_iload hx hb dX0_isProof_303 (lv_at hl 6 rfl) ?_
      refine lv_iconst (v := 1) hx hb dX0_isProof_305 (by decide) ?_
      refine lv_iadd hx hb dX0_isProof_306 ?_
      obtain ⟨q307, h307, hf⟩ := bind_some hf
      refine kroX0_72_X0_formulaOf F K E hA Z (hr_X0_formulaOf _ _ _ _ _ h307) ⟨by show frr + 1 ≤ frr + 1; omega, by show 29 + lor ≤ lor + 29; omega⟩ hl.1 (Nat.le_of_ble_eq_true rfl) dX0_isProof_307 (fun H locs Z => ?_)
      refine lv_istore (lv' := [(7, .int q307.1), (6, .int q30.1), (5, .int q19.1), (0, .ref (ad 46)), (1, .int x1), (2, .int x2), (3, .int x3), (4, .int x4)]) hx hb dX0_isProof_310 hl (by decide) rfl (fun ls hl => ?_)
      refine lv_aload_n hx hb dX0_isProof_312 rfl (lv_at hl 3 rfl) ?_
      refine lv_iload hx hb dX0_isProof_313 (lv_at hl 0 rfl) ?_
      obtain ⟨q315, h315, hf⟩ := bind_some hf
      refine krX0_62_X0_kindOf F K E hA Z h315 ⟨by show 3 ≤ frr + 1; omega, by show 63 ≤ lor + 29; omega⟩ hl.1 (Nat.le_of_ble_eq_true rfl) dX0_isProof_315 (fun H locs Z => ?_)
      refine lv_iconst (v := 4) hx hb dX0_isProof_318 (by decide) ?_
      refine lv_icmp_ne (tgt := 395) hx hb dX0_isProof_319 (by decide) (fun c319 => ?_) (fun c319 => ?_)
      · have hf := if_f c319 hf
        refine lv_iconst (v := 0) hx hb dX0_isProof_395 (by decide) ?_
        have hf := Option.some.inj hf
        subst hf
        exact ret_z F hr hk Z rfl dX0_isProof_396
      have hf := if_t c319 hf
      refine lv_aload_n hx hb dX0_isProof_322 rfl (lv_at hl 3 rfl) ?_
      refine lv_aload_n hx hb dX0_isProof_323 rfl (lv_at hl 3 rfl) ?_
      refine lv_iload hx hb dX0_isProof_324 (lv_at hl 0 rfl) ?_
      obtain ⟨q326, h326, hf⟩ := bind_some hf
      refine krX0_63_X0_firstOf F K E hA Z h326 ⟨by show 3 ≤ frr + 1; omega, by show 63 ≤ lor + 29; omega⟩ hl.1 (Nat.le_of_ble_eq_true rfl) dX0_isProof_326 (fun H locs Z => ?_)
      refine lv_iload_n hx hb dX0_isProof_329 rfl (lv_at hl 6 rfl) ?_
      obtain ⟨q330, h330, hf⟩ := bind_some hf
      refine krX0_67_X0_binds F K E hA Z h330 ⟨by show 1 ≤ frr + 1; omega, by show 22 ≤ lor + 29; omega⟩ hl.1 (Nat.le_of_ble_eq_true rfl) dX0_isProof_330 (fun H locs Z => ?_)
      refine lv_if_eq (tgt := 395) hx hb dX0_isProof_333 (by decide) (fun c333 => ?_) (fun c333 => ?_)
      · have hf := if_t c333 hf
        refine lv_iconst (v := 0) hx hb dX0_isProof_395 (by decide) ?_
        have hf := Option.some.inj hf
        subst hf
        exact ret_z F hr hk Z rfl dX0_isProof_396
      have hf := if_f c333 hf
      refine lv_aload_n hx hb dX0_isProof_336 rfl (lv_at hl 3 rfl) ?_
      refine lv_iload hx hb dX0_isProof_337 (lv_at hl 1 rfl) ?_
      refine lv_iload_n hx hb dX0_isProof_339 rfl (lv_at hl 5 rfl) ?_
      refine lv_iload_n hx hb dX0_isProof_340 rfl (lv_at hl 6 rfl) ?_
      refine lv_iconst (v := 1) hx hb dX0_isProof_341 (by decide) ?_
      refine lv_iadd hx hb dX0_isProof_342 ?_
      refine lv_iload hx hb dX0_isProof_343 (lv_at hl 7 rfl) ?_
      refine lv_iconst (v := 1) hx hb dX0_isProof_345 (by decide) ?_
      refine lv_iadd hx hb dX0_isProof_346 ?_
      obtain ⟨q347, h347, hf⟩ := bind_some hf
      refine kroX0_34_X0_isProof F K E hA Z (hr_X0_isProof _ _ _ _ _ _ h347) ⟨by show frr + 1 ≤ frr + 1; omega, by show 27 + lor ≤ lor + 29; omega⟩ hl.1 (Nat.le_of_ble_eq_true rfl) dX0_isProof_347 (fun H locs Z => ?_)
      refine lv_if_eq (tgt := 395) hx hb dX0_isProof_350 (by decide) (fun c350 => ?_) (fun c350 => ?_)
      · have hf := if_t c350 hf
        refine lv_iconst (v := 0) hx hb dX0_isProof_395 (by decide) ?_
        have hf := Option.some.inj hf
        subst hf
        exact ret_z F hr hk Z rfl dX0_isProof_396
      have hf := if_f c350 hf
      refine lv_aload_n hx hb dX0_isProof_353 rfl (lv_at hl 3 rfl) ?_
      refine lv_aload_n hx hb dX0_isProof_354 rfl (lv_at hl 3 rfl) ?_
      refine lv_iload hx hb dX0_isProof_355 (lv_at hl 0 rfl) ?_
      obtain ⟨q357, h357, hf⟩ := bind_some hf
      refine krX0_71_X0_secondOf F K E hA Z h357 ⟨by show 3 ≤ frr + 1; omega, by show 63 ≤ lor + 29; omega⟩ hl.1 (Nat.le_of_ble_eq_true rfl) dX0_isProof_357 (fun H locs Z => ?_)
      refine lv_iload_n hx hb dX0_isProof_360 rfl (lv_at hl 6 rfl) ?_
      obtain ⟨q361, h361, hf⟩ := bind_some hf
      refine krX0_67_X0_binds F K E hA Z h361 ⟨by show 1 ≤ frr + 1; omega, by show 22 ≤ lor + 29; omega⟩ hl.1 (Nat.le_of_ble_eq_true rfl) dX0_isProof_361 (fun H locs Z => ?_)
      refine lv_if_eq (tgt := 395) hx hb dX0_isProof_364 (by decide) (fun c364 => ?_) (fun c364 => ?_)
      · have hf := if_t c364 hf
        refine lv_iconst (v := 0) hx hb dX0_isProof_395 (by decide) ?_
        have hf := Option.some.inj hf
        subst hf
        exact ret_z F hr hk Z rfl dX0_isProof_396
      have hf := if_f c364 hf
      refine lv_aload_n hx hb dX0_isProof_367 rfl (lv_at hl 3 rfl) ?_
      refine lv_aload_n hx hb dX0_isProof_368 rfl (lv_at hl 3 rfl) ?_
      refine grX0_27_46 F K Z dX0_isProof_369 ?_
      refine lv_iload_n hx hb dX0_isProof_372 rfl (lv_at hl 4 rfl) ?_
      refine lv_iconst (v := 2) hx hb dX0_isProof_373 (by decide) ?_
      obtain ⟨q374, h374, hf⟩ := bind_some hf
      refine krX0_55_X7_partOf_T0 F K E hA Z h374 ⟨by show 2 ≤ frr + 1; omega, by show 43 ≤ lor + 29; omega⟩ hl.1 (Nat.le_of_ble_eq_true rfl) dX0_isProof_374 (fun H locs Z => ?_)
      refine lv_iload_n hx hb dX0_isProof_377 rfl (lv_at hl 5 rfl) ?_
      refine lv_iload_n hx hb dX0_isProof_378 rfl (lv_at hl 6 rfl) ?_
      refine lv_iconst (v := 1) hx hb dX0_isProof_379 (by decide) ?_
      refine lv_iadd hx hb dX0_isProof_380 ?_
      refine lv_iload hx hb dX0_isProof_381 (lv_at hl 7 rfl) ?_
      refine lv_iconst (v := 1) hx hb dX0_isProof_383 (by decide) ?_
      refine lv_iadd hx hb dX0_isProof_384 ?_
      obtain ⟨q385, h385, hf⟩ := bind_some hf
      refine kroX0_34_X0_isProof F K E hA Z (hr_X0_isProof _ _ _ _ _ _ h385) ⟨by show frr + 1 ≤ frr + 1; omega, by show 27 + lor ≤ lor + 29; omega⟩ hl.1 (Nat.le_of_ble_eq_true rfl) dX0_isProof_385 (fun H locs Z => ?_)
      refine lv_if_eq (tgt := 395) hx hb dX0_isProof_388 (by decide) (fun c388 => ?_) (fun c388 => ?_)
      · have hf := if_t c388 hf
        refine lv_iconst (v := 0) hx hb dX0_isProof_395 (by decide) ?_
        have hf := Option.some.inj hf
        subst hf
        exact ret_z F hr hk Z rfl dX0_isProof_396
      have hf := if_f c388 hf
      refine lv_iconst (v := 1) hx hb dX0_isProof_391 (by decide) ?_
      refine lv_goto (tgt := 396) hx hb dX0_isProof_392 (by decide) ?_
      have hf := Option.some.inj hf
      subst hf
      exact ret_z F hr hk Z rfl dX0_isProof_396
    have hf := if_f c43_67 hf
    by_cases c43_73 : q40.1 = 73
    · have hf := if_t c43_73 hf
      refine lv_lookup (tgt := 218) hx hb dX0_isProof_43 (by decide) (by rw [c43_73] <;> decide) (by decide) ?_
      refine lv_aload_n hx hb dX0_isProof_218 rfl (lv_at hl 2 rfl) ?_
      refine lv_iload_n hx hb dX0_isProof_219 rfl (lv_at hl 4 rfl) ?_
      obtain ⟨q220, h220, hf⟩ := bind_some hf
      refine krX0_62_X0_kindOf F K E hA Z h220 ⟨by show 3 ≤ frr + 1; omega, by show 63 ≤ lor + 29; omega⟩ hl.1 (Nat.le_of_ble_eq_true rfl) dX0_isProof_220 (fun H locs Z => ?_)
      refine lv_iconst (v := 4) hx hb dX0_isProof_223 (by decide) ?_
      refine lv_icmp_ne (tgt := 250) hx hb dX0_isProof_224 (by decide) (fun c224 => ?_) (fun c224 => ?_)
      · have hf := if_f c224 hf
        refine lv_iconst (v := 0) hx hb dX0_isProof_250 (by decide) ?_
        have hf := Option.some.inj hf
        subst hf
        exact ret_z F hr hk Z rfl dX0_isProof_251
      have hf := if_t c224 hf
      refine lv_aload_n hx hb dX0_isProof_227 rfl (lv_at hl 2 rfl) ?_
      refine lv_iload hx hb dX0_isProof_228 (lv_at hl 1 rfl) ?_
      refine lv_aload_n hx hb dX0_isProof_230 rfl (lv_at hl 2 rfl) ?_
      refine lv_iload_n hx hb dX0_isProof_231 rfl (lv_at hl 4 rfl) ?_
      obtain ⟨q232, h232, hf⟩ := bind_some hf
      refine krX0_63_X0_firstOf F K E hA Z h232 ⟨by show 3 ≤ frr + 1; omega, by show 63 ≤ lor + 29; omega⟩ hl.1 (Nat.le_of_ble_eq_true rfl) dX0_isProof_232 (fun H locs Z => ?_)
      refine lv_iload_n hx hb dX0_isProof_235 rfl (lv_at hl 5 rfl) ?_
      refine lv_iload hx hb dX0_isProof_236 (lv_at hl 6 rfl) ?_
      refine lv_iconst (v := 1) hx hb dX0_isProof_238 (by decide) ?_
      refine lv_iadd hx hb dX0_isProof_239 ?_
      obtain ⟨q240, h240, hf⟩ := bind_some hf
      refine kroX0_34_X0_isProof F K E hA Z (hr_X0_isProof _ _ _ _ _ _ h240) ⟨by show frr + 1 ≤ frr + 1; omega, by show 27 + lor ≤ lor + 29; omega⟩ hl.1 (Nat.le_of_ble_eq_true rfl) dX0_isProof_240 (fun H locs Z => ?_)
      refine lv_if_eq (tgt := 250) hx hb dX0_isProof_243 (by decide) (fun c243 => ?_) (fun c243 => ?_)
      · have hf := if_t c243 hf
        refine lv_iconst (v := 0) hx hb dX0_isProof_250 (by decide) ?_
        have hf := Option.some.inj hf
        subst hf
        exact ret_z F hr hk Z rfl dX0_isProof_251
      have hf := if_f c243 hf
      refine lv_iconst (v := 1) hx hb dX0_isProof_246 (by decide) ?_
      refine lv_goto (tgt := 251) hx hb dX0_isProof_247 (by decide) ?_
      have hf := Option.some.inj hf
      subst hf
      exact ret_z F hr hk Z rfl dX0_isProof_251
    have hf := if_f c43_73 hf
    by_cases c43_74 : q40.1 = 74
    · have hf := if_t c43_74 hf
      refine lv_lookup (tgt := 252) hx hb dX0_isProof_43 (by decide) (by rw [c43_74] <;> decide) (by decide) ?_
      refine lv_aload_n hx hb dX0_isProof_252 rfl (lv_at hl 2 rfl) ?_
      refine lv_iload_n hx hb dX0_isProof_253 rfl (lv_at hl 4 rfl) ?_
      obtain ⟨q254, h254, hf⟩ := bind_some hf
      refine krX0_62_X0_kindOf F K E hA Z h254 ⟨by show 3 ≤ frr + 1; omega, by show 63 ≤ lor + 29; omega⟩ hl.1 (Nat.le_of_ble_eq_true rfl) dX0_isProof_254 (fun H locs Z => ?_)
      refine lv_iconst (v := 4) hx hb dX0_isProof_257 (by decide) ?_
      refine lv_icmp_ne (tgt := 284) hx hb dX0_isProof_258 (by decide) (fun c258 => ?_) (fun c258 => ?_)
      · have hf := if_f c258 hf
        refine lv_iconst (v := 0) hx hb dX0_isProof_284 (by decide) ?_
        have hf := Option.some.inj hf
        subst hf
        exact ret_z F hr hk Z rfl dX0_isProof_285
      have hf := if_t c258 hf
      refine lv_aload_n hx hb dX0_isProof_261 rfl (lv_at hl 2 rfl) ?_
      refine lv_iload hx hb dX0_isProof_262 (lv_at hl 1 rfl) ?_
      refine lv_aload_n hx hb dX0_isProof_264 rfl (lv_at hl 2 rfl) ?_
      refine lv_iload_n hx hb dX0_isProof_265 rfl (lv_at hl 4 rfl) ?_
      obtain ⟨q266, h266, hf⟩ := bind_some hf
      refine krX0_71_X0_secondOf F K E hA Z h266 ⟨by show 3 ≤ frr + 1; omega, by show 63 ≤ lor + 29; omega⟩ hl.1 (Nat.le_of_ble_eq_true rfl) dX0_isProof_266 (fun H locs Z => ?_)
      refine lv_iload_n hx hb dX0_isProof_269 rfl (lv_at hl 5 rfl) ?_
      refine lv_iload hx hb dX0_isProof_270 (lv_at hl 6 rfl) ?_
      refine lv_iconst (v := 1) hx hb dX0_isProof_272 (by decide) ?_
      refine lv_iadd hx hb dX0_isProof_273 ?_
      obtain ⟨q274, h274, hf⟩ := bind_some hf
      refine kroX0_34_X0_isProof F K E hA Z (hr_X0_isProof _ _ _ _ _ _ h274) ⟨by show frr + 1 ≤ frr + 1; omega, by show 27 + lor ≤ lor + 29; omega⟩ hl.1 (Nat.le_of_ble_eq_true rfl) dX0_isProof_274 (fun H locs Z => ?_)
      refine lv_if_eq (tgt := 284) hx hb dX0_isProof_277 (by decide) (fun c277 => ?_) (fun c277 => ?_)
      · have hf := if_t c277 hf
        refine lv_iconst (v := 0) hx hb dX0_isProof_284 (by decide) ?_
        have hf := Option.some.inj hf
        subst hf
        exact ret_z F hr hk Z rfl dX0_isProof_285
      have hf := if_f c277 hf
      refine lv_iconst (v := 1) hx hb dX0_isProof_280 (by decide) ?_
      refine lv_goto (tgt := 285) hx hb dX0_isProof_281 (by decide) ?_
      have hf := Option.some.inj hf
      subst hf
      exact ret_z F hr hk Z rfl dX0_isProof_285
    have hf := if_f c43_74 hf
    by_cases c43_76 : q40.1 = 76
    · have hf := if_t c43_76 hf
      refine lv_lookup (tgt := 100) hx hb dX0_isProof_43 (by decide) (by rw [c43_76] <;> decide) (by decide) ?_
      refine lv_aload_n hx hb dX0_isProof_100 rfl (lv_at hl 2 rfl) ?_
      refine lv_iload_n hx hb dX0_isProof_101 rfl (lv_at hl 4 rfl) ?_
      obtain ⟨q102, h102, hf⟩ := bind_some hf
      refine krX0_62_X0_kindOf F K E hA Z h102 ⟨by show 3 ≤ frr + 1; omega, by show 63 ≤ lor + 29; omega⟩ hl.1 (Nat.le_of_ble_eq_true rfl) dX0_isProof_102 (fun H locs Z => ?_)
      refine lv_iconst (v := 5) hx hb dX0_isProof_105 (by decide) ?_
      refine lv_icmp_ne (tgt := 163) hx hb dX0_isProof_106 (by decide) (fun c106 => ?_) (fun c106 => ?_)
      · have hf := if_f c106 hf
        refine lv_iconst (v := 0) hx hb dX0_isProof_163 (by decide) ?_
        have hf := Option.some.inj hf
        subst hf
        exact ret_z F hr hk Z rfl dX0_isProof_164
      have hf := if_t c106 hf
      refine lv_aload_n hx hb dX0_isProof_109 rfl (lv_at hl 2 rfl) ?_
      refine lv_iload_n hx hb dX0_isProof_110 rfl (lv_at hl 4 rfl) ?_
      obtain ⟨q111, h111, hf⟩ := bind_some hf
      refine krX0_63_X0_firstOf F K E hA Z h111 ⟨by show 3 ≤ frr + 1; omega, by show 63 ≤ lor + 29; omega⟩ hl.1 (Nat.le_of_ble_eq_true rfl) dX0_isProof_111 (fun H locs Z => ?_)
      refine lv_aload_n hx hb dX0_isProof_114 rfl (lv_at hl 2 rfl) ?_
      refine grX0_27_46 F K Z dX0_isProof_115 ?_
      refine lv_iload_n hx hb dX0_isProof_118 rfl (lv_at hl 3 rfl) ?_
      obtain ⟨q119, h119, hf⟩ := bind_some hf
      refine krX0_64_X7_formulaOf_T0 F K E hA Z h119 ⟨by show 3 ≤ frr + 1; omega, by show 64 ≤ lor + 29; omega⟩ hl.1 (Nat.le_of_ble_eq_true rfl) dX0_isProof_119 (fun H locs Z => ?_)
      refine lv_icmp_ne (tgt := 163) hx hb dX0_isProof_122 (by decide) (fun c122 => ?_) (fun c122 => ?_)
      · have hf := if_f c122 hf
        refine lv_iconst (v := 0) hx hb dX0_isProof_163 (by decide) ?_
        have hf := Option.some.inj hf
        subst hf
        exact ret_z F hr hk Z rfl dX0_isProof_164
      have hf := if_t c122 hf
      refine lv_aload_n hx hb dX0_isProof_125 rfl (lv_at hl 2 rfl) ?_
      refine lv_aload_n hx hb dX0_isProof_126 rfl (lv_at hl 2 rfl) ?_
      refine lv_iload_n hx hb dX0_isProof_127 rfl (lv_at hl 4 rfl) ?_
      obtain ⟨q128, h128, hf⟩ := bind_some hf
      refine krX0_63_X0_firstOf F K E hA Z h128 ⟨by show 3 ≤ frr + 1; omega, by show 63 ≤ lor + 29; omega⟩ hl.1 (Nat.le_of_ble_eq_true rfl) dX0_isProof_128 (fun H locs Z => ?_)
      refine lv_iload_n hx hb dX0_isProof_131 rfl (lv_at hl 5 rfl) ?_
      obtain ⟨q132, h132, hf⟩ := bind_some hf
      refine krX0_67_X0_binds F K E hA Z h132 ⟨by show 1 ≤ frr + 1; omega, by show 22 ≤ lor + 29; omega⟩ hl.1 (Nat.le_of_ble_eq_true rfl) dX0_isProof_132 (fun H locs Z => ?_)
      refine lv_if_eq (tgt := 163) hx hb dX0_isProof_135 (by decide) (fun c135 => ?_) (fun c135 => ?_)
      · have hf := if_t c135 hf
        refine lv_iconst (v := 0) hx hb dX0_isProof_163 (by decide) ?_
        have hf := Option.some.inj hf
        subst hf
        exact ret_z F hr hk Z rfl dX0_isProof_164
      have hf := if_f c135 hf
      refine lv_aload_n hx hb dX0_isProof_138 rfl (lv_at hl 2 rfl) ?_
      refine lv_iload hx hb dX0_isProof_139 (lv_at hl 1 rfl) ?_
      refine lv_aload_n hx hb dX0_isProof_141 rfl (lv_at hl 2 rfl) ?_
      refine lv_iload_n hx hb dX0_isProof_142 rfl (lv_at hl 4 rfl) ?_
      obtain ⟨q143, h143, hf⟩ := bind_some hf
      refine krX0_71_X0_secondOf F K E hA Z h143 ⟨by show 3 ≤ frr + 1; omega, by show 63 ≤ lor + 29; omega⟩ hl.1 (Nat.le_of_ble_eq_true rfl) dX0_isProof_143 (fun H locs Z => ?_)
      refine lv_iload_n hx hb dX0_isProof_146 rfl (lv_at hl 5 rfl) ?_
      refine lv_iconst (v := 1) hx hb dX0_isProof_147 (by decide) ?_
      refine lv_iadd hx hb dX0_isProof_148 ?_
      refine lv_iload hx hb dX0_isProof_149 (lv_at hl 6 rfl) ?_
      refine lv_iconst (v := 1) hx hb dX0_isProof_151 (by decide) ?_
      refine lv_iadd hx hb dX0_isProof_152 ?_
      obtain ⟨q153, h153, hf⟩ := bind_some hf
      refine kroX0_34_X0_isProof F K E hA Z (hr_X0_isProof _ _ _ _ _ _ h153) ⟨by show frr + 1 ≤ frr + 1; omega, by show 27 + lor ≤ lor + 29; omega⟩ hl.1 (Nat.le_of_ble_eq_true rfl) dX0_isProof_153 (fun H locs Z => ?_)
      refine lv_if_eq (tgt := 163) hx hb dX0_isProof_156 (by decide) (fun c156 => ?_) (fun c156 => ?_)
      · have hf := if_t c156 hf
        refine lv_iconst (v := 0) hx hb dX0_isProof_163 (by decide) ?_
        have hf := Option.some.inj hf
        subst hf
        exact ret_z F hr hk Z rfl dX0_isProof_164
      have hf := if_f c156 hf
      refine lv_iconst (v := 1) hx hb dX0_isProof_159 (by decide) ?_
      refine lv_goto (tgt := 164) hx hb dX0_isProof_160 (by decide) ?_
      have hf := Option.some.inj hf
      subst hf
      exact ret_z F hr hk Z rfl dX0_isProof_164
    have hf := if_f c43_76 hf
    by_cases c43_80 : q40.1 = 80
    · have hf := if_t c43_80 hf
      refine lv_lookup (tgt := 165) hx hb dX0_isProof_43 (by decide) (by rw [c43_80] <;> decide) (by decide) ?_
      refine lv_aload_n hx hb dX0_isProof_165 rfl (lv_at hl 2 rfl) ?_
      refine lv_iload_n hx hb dX0_isProof_166 rfl (lv_at hl 4 rfl) ?_
      obtain ⟨q167, h167, hf⟩ := bind_some hf
      refine krX0_62_X0_kindOf F K E hA Z h167 ⟨by show 3 ≤ frr + 1; omega, by show 63 ≤ lor + 29; omega⟩ hl.1 (Nat.le_of_ble_eq_true rfl) dX0_isProof_167 (fun H locs Z => ?_)
      refine lv_iconst (v := 3) hx hb dX0_isProof_170 (by decide) ?_
      refine lv_icmp_ne (tgt := 216) hx hb dX0_isProof_171 (by decide) (fun c171 => ?_) (fun c171 => ?_)
      · have hf := if_f c171 hf
        refine lv_iconst (v := 0) hx hb dX0_isProof_216 (by decide) ?_
        have hf := Option.some.inj hf
        subst hf
        exact ret_z F hr hk Z rfl dX0_isProof_217
      have hf := if_t c171 hf
      refine lv_aload_n hx hb dX0_isProof_174 rfl (lv_at hl 2 rfl) ?_
      refine lv_iload hx hb dX0_isProof_175 (lv_at hl 1 rfl) ?_
      refine lv_aload_n hx hb dX0_isProof_177 rfl (lv_at hl 2 rfl) ?_
      refine lv_iload_n hx hb dX0_isProof_178 rfl (lv_at hl 4 rfl) ?_
      obtain ⟨q179, h179, hf⟩ := bind_some hf
      refine krX0_63_X0_firstOf F K E hA Z h179 ⟨by show 3 ≤ frr + 1; omega, by show 63 ≤ lor + 29; omega⟩ hl.1 (Nat.le_of_ble_eq_true rfl) dX0_isProof_179 (fun H locs Z => ?_)
      refine lv_iload_n hx hb dX0_isProof_182 rfl (lv_at hl 5 rfl) ?_
      refine lv_iload hx hb dX0_isProof_183 (lv_at hl 6 rfl) ?_
      refine lv_iconst (v := 1) hx hb dX0_isProof_185 (by decide) ?_
      refine lv_iadd hx hb dX0_isProof_186 ?_
      obtain ⟨q187, h187, hf⟩ := bind_some hf
      refine kroX0_34_X0_isProof F K E hA Z (hr_X0_isProof _ _ _ _ _ _ h187) ⟨by show frr + 1 ≤ frr + 1; omega, by show 27 + lor ≤ lor + 29; omega⟩ hl.1 (Nat.le_of_ble_eq_true rfl) dX0_isProof_187 (fun H locs Z => ?_)
      refine lv_if_eq (tgt := 216) hx hb dX0_isProof_190 (by decide) (fun c190 => ?_) (fun c190 => ?_)
      · have hf := if_t c190 hf
        refine lv_iconst (v := 0) hx hb dX0_isProof_216 (by decide) ?_
        have hf := Option.some.inj hf
        subst hf
        exact ret_z F hr hk Z rfl dX0_isProof_217
      have hf := if_f c190 hf
      refine lv_aload_n hx hb dX0_isProof_193 rfl (lv_at hl 2 rfl) ?_
      refine lv_iload hx hb dX0_isProof_194 (lv_at hl 0 rfl) ?_
      refine lv_aload_n hx hb dX0_isProof_196 rfl (lv_at hl 2 rfl) ?_
      refine lv_iload_n hx hb dX0_isProof_197 rfl (lv_at hl 4 rfl) ?_
      obtain ⟨q198, h198, hf⟩ := bind_some hf
      refine krX0_71_X0_secondOf F K E hA Z h198 ⟨by show 3 ≤ frr + 1; omega, by show 63 ≤ lor + 29; omega⟩ hl.1 (Nat.le_of_ble_eq_true rfl) dX0_isProof_198 (fun H locs Z => ?_)
      refine lv_iload_n hx hb dX0_isProof_201 rfl (lv_at hl 5 rfl) ?_
      refine lv_iload hx hb dX0_isProof_202 (lv_at hl 6 rfl) ?_
      refine lv_iconst (v := 1) hx hb dX0_isProof_204 (by decide) ?_
      refine lv_iadd hx hb dX0_isProof_205 ?_
      obtain ⟨q206, h206, hf⟩ := bind_some hf
      refine kroX0_34_X0_isProof F K E hA Z (hr_X0_isProof _ _ _ _ _ _ h206) ⟨by show frr + 1 ≤ frr + 1; omega, by show 27 + lor ≤ lor + 29; omega⟩ hl.1 (Nat.le_of_ble_eq_true rfl) dX0_isProof_206 (fun H locs Z => ?_)
      refine lv_if_eq (tgt := 216) hx hb dX0_isProof_209 (by decide) (fun c209 => ?_) (fun c209 => ?_)
      · have hf := if_t c209 hf
        refine lv_iconst (v := 0) hx hb dX0_isProof_216 (by decide) ?_
        have hf := Option.some.inj hf
        subst hf
        exact ret_z F hr hk Z rfl dX0_isProof_217
      have hf := if_f c209 hf
      refine lv_iconst (v := 1) hx hb dX0_isProof_212 (by decide) ?_
      refine lv_goto (tgt := 217) hx hb dX0_isProof_213 (by decide) ?_
      have hf := Option.some.inj hf
      subst hf
      exact ret_z F hr hk Z rfl dX0_isProof_217
    have hf := if_f c43_80 hf
    by_cases c43_88 : q40.1 = 88
    · have hf := if_t c43_88 hf
      refine lv_lookup (tgt := 286) hx hb dX0_isProof_43 (by decide) (by rw [c43_88] <;> decide) (by decide) ?_
      refine lv_aload_n hx hb dX0_isProof_286 rfl (lv_at hl 2 rfl) ?_
      refine lv_iload hx hb dX0_isProof_287 (lv_at hl 1 rfl) ?_
      refine lv_iconst (v := 0) hx hb dX0_isProof_289 (by decide) ?_
      refine lv_iload_n hx hb dX0_isProof_290 rfl (lv_at hl 5 rfl) ?_
      refine lv_iload hx hb dX0_isProof_291 (lv_at hl 6 rfl) ?_
      refine lv_iconst (v := 1) hx hb dX0_isProof_293 (by decide) ?_
      refine lv_iadd hx hb dX0_isProof_294 ?_
      obtain ⟨q295, h295, hf⟩ := bind_some hf
      refine kroX0_34_X0_isProof F K E hA Z (hr_X0_isProof _ _ _ _ _ _ h295) ⟨by show frr + 1 ≤ frr + 1; omega, by show 27 + lor ≤ lor + 29; omega⟩ hl.1 (Nat.le_of_ble_eq_true rfl) dX0_isProof_295 (fun H locs Z => ?_)
      obtain ⟨i298, hf⟩ := if_some hf
      have hf := Option.some.inj hf
      subst hf
      exact ret_z F hr hk Z i298 dX0_isProof_298
    have hf := if_f c43_88 hf
    refine lv_lookup (tgt := 397) hx hb dX0_isProof_43 (by decide) (off := 354) ?_ (by decide) ?_
    · exact (lv_osw c43_67 (by decide)).trans ((lv_osw c43_73 (by decide)).trans ((lv_osw c43_74 (by decide)).trans ((lv_osw c43_76 (by decide)).trans ((lv_osw c43_80 (by decide)).trans ((lv_osw c43_88 (by decide)).trans (rfl))))))
    refine lv_aload_n hx hb dX0_isProof_397 rfl (lv_at hl 2 rfl) ?_
    refine lv_iload_n hx hb dX0_isProof_398 rfl (lv_at hl 3 rfl) ?_
    refine lv_iload_n hx hb dX0_isProof_399 rfl (lv_at hl 5 rfl) ?_
    refine lv_iload hx hb dX0_isProof_400 (lv_at hl 6 rfl) ?_
    obtain ⟨q402, h402, hf⟩ := bind_some hf
    refine kroX0_72_X0_formulaOf F K E hA Z (hr_X0_formulaOf _ _ _ _ _ h402) ⟨by show frr + 1 ≤ frr + 1; omega, by show 29 + lor ≤ lor + 29; omega⟩ hl.1 (Nat.le_of_ble_eq_true rfl) dX0_isProof_402 (fun H locs Z => ?_)
    refine lv_iload_n hx hb dX0_isProof_405 rfl (lv_at hl 4 rfl) ?_
    refine lv_icmp_ne (tgt := 413) hx hb dX0_isProof_406 (by decide) (fun c406 => ?_) (fun c406 => ?_)
    · have hf := if_f c406 hf
      refine lv_iconst (v := 0) hx hb dX0_isProof_413 (by decide) ?_
      have hf := Option.some.inj hf
      subst hf
      exact ret_z F hr hk Z rfl dX0_isProof_414
    have hf := if_t c406 hf
    refine lv_iconst (v := 1) hx hb dX0_isProof_409 (by decide) ?_
    refine lv_goto (tgt := 414) hx hb dX0_isProof_410 (by decide) ?_
    have hf := Option.some.inj hf
    subst hf
    exact ret_z F hr hk Z rfl dX0_isProof_414
  have hf := if_f c8 hf
  refine lv_iconst (v := 0) hx hb dX0_isProof_11 (by decide) ?_
  have hf := Option.some.inj hf
  subst hf
  exact ret_z F hr hk Z rfl dX0_isProof_12
set_option maxRecDepth 100000 in
set_option maxHeartbeats 4000000 in
theorem o_X0_formulaOf {l : Launch} {D : va_G} {ad : Nat → Nat} {cy : Nat → ClassId} {ee : EE} {n : Nat} {frr lor : Nat} (hfr : 3 ≤ frr) (hlo : 76 ≤ lor) {r_X0_isProof : StT → Int32 → Int32 → Int32 → Int32 → Option (Int32 × StT)} (hr_X0_isProof : ∀ (st : StT) (x1 : Int32) (x2 : Int32) (x3 : Int32) (x4 : Int32) (res : (Int32 × StT)), r_X0_isProof st x1 x2 x3 x4 = some res → CT l yX0_isProof cX0_isProof 8 (some .boolean) frr lor D cy ee (wC ad cy st) (wC ad cy res.2) [.ref (ad 46), .int x1, .int x2, .int x3, .int x4] (some (.int res.1))) {r_X0_formulaOf : StT → Int32 → Int32 → Int32 → Option (Int32 × StT)} (hr_X0_formulaOf : ∀ (st : StT) (x1 : Int32) (x2 : Int32) (x3 : Int32) (res : (Int32 × StT)), r_X0_formulaOf st x1 x2 x3 = some res → CT l yX0_formulaOf cX0_formulaOf 10 (some .int) frr lor D cy ee (wC ad cy st) (wC ad cy res.2) [.ref (ad 46), .int x1, .int x2, .int x3] (some (.int res.1))) {st : StT} {x1 : Int32} {x2 : Int32} {x3 : Int32} {res : (Int32 × StT)} (hf : g_X0_formulaOf n r_X0_isProof r_X0_formulaOf st x1 x2 x3 = some res) : CT l yX0_formulaOf cX0_formulaOf 10 (some .int) (frr + 1) (lor + 29) D cy ee (wC ad cy st) (wC ad cy res.2) [.ref (ad 46), .int x1, .int x2, .int x3] (some (.int res.1)) := by
  refine CT.of (by decide +kernel) (Nat.le_of_ble_eq_true rfl) ?_
  intro p e s m args below meth c A F hr hk K E hA Z ls hl
  have hl : lv_has ls 10 [(0, .ref (ad 46)), (1, .int x1), (2, .int x2), (3, .int x3)] := hl
  have hx := F.1
  have hb := F.2.1
  unfold g_X0_formulaOf at hf
  refine lv_iload_n hx hb dX0_formulaOf_0 rfl (lv_at hl 3 rfl) ?_
  refine lv_bipush (v := 40) hx hb dX0_formulaOf_1 (by decide) ?_
  refine lv_icmp_le (tgt := 8) hx hb dX0_formulaOf_3 (by decide) (fun c3 => ?_) (fun c3 => ?_)
  · have hf := if_t c3 hf
    refine lv_aload_n hx hb dX0_formulaOf_8 rfl (lv_at hl 0 rfl) ?_
    refine grX0_27_46 F K Z dX0_formulaOf_9 ?_
    refine lv_iload_n hx hb dX0_formulaOf_12 rfl (lv_at hl 1 rfl) ?_
    refine lv_iconst (v := 0) hx hb dX0_formulaOf_13 (by decide) ?_
    obtain ⟨q14, h14, hf⟩ := bind_some hf
    refine krX0_55_X7_partOf_T0 F K E hA Z h14 ⟨by show 2 ≤ frr + 1; omega, by show 43 ≤ lor + 29; omega⟩ hl.1 (Nat.le_of_ble_eq_true rfl) dX0_formulaOf_14 (fun H locs Z => ?_)
    refine lv_istore (lv' := [(4, .int q14.1), (0, .ref (ad 46)), (1, .int x1), (2, .int x2), (3, .int x3)]) hx hb dX0_formulaOf_17 hl (by decide) rfl (fun ls hl => ?_)
    refine lv_aload_n hx hb dX0_formulaOf_19 rfl (lv_at hl 1 rfl) ?_
    refine grX0_27_46 F K Z dX0_formulaOf_20 ?_
    refine lv_iload_n hx hb dX0_formulaOf_23 rfl (lv_at hl 2 rfl) ?_
    obtain ⟨q24, h24, hf⟩ := bind_some hf
    refine krX0_61_X7_kindOf_T0 F K E hA Z h24 ⟨by show 2 ≤ frr + 1; omega, by show 42 ≤ lor + 29; omega⟩ hl.1 (Nat.le_of_ble_eq_true rfl) dX0_formulaOf_24 (fun H locs Z => ?_)
    by_cases c27_65 : q24.1 = 65
    · have hf := if_t c27_65 hf
      refine lv_lookup (tgt := 183) hx hb dX0_formulaOf_27 (by decide) (by rw [c27_65] <;> decide) (by decide) ?_
      refine lv_aload_n hx hb dX0_formulaOf_183 rfl (lv_at hl 1 rfl) ?_
      refine lv_iload hx hb dX0_formulaOf_184 (lv_at hl 0 rfl) ?_
      refine lv_iload_n hx hb dX0_formulaOf_186 rfl (lv_at hl 3 rfl) ?_
      refine lv_iload_n hx hb dX0_formulaOf_187 rfl (lv_at hl 4 rfl) ?_
      refine lv_iconst (v := 1) hx hb dX0_formulaOf_188 (by decide) ?_
      refine lv_iadd hx hb dX0_formulaOf_189 ?_
      obtain ⟨q190, h190, hf⟩ := bind_some hf
      refine kroX0_72_X0_formulaOf F K E hA Z (hr_X0_formulaOf _ _ _ _ _ h190) ⟨by show frr + 1 ≤ frr + 1; omega, by show 29 + lor ≤ lor + 29; omega⟩ hl.1 (Nat.le_of_ble_eq_true rfl) dX0_formulaOf_190 (fun H locs Z => ?_)
      refine lv_istore (lv' := [(7, .int q190.1), (4, .int q14.1), (0, .ref (ad 46)), (1, .int x1), (2, .int x2), (3, .int x3)]) hx hb dX0_formulaOf_193 hl (by decide) rfl (fun ls hl => ?_)
      refine lv_aload_n hx hb dX0_formulaOf_195 rfl (lv_at hl 2 rfl) ?_
      refine lv_iload hx hb dX0_formulaOf_196 (lv_at hl 0 rfl) ?_
      obtain ⟨q198, h198, hf⟩ := bind_some hf
      refine krX0_62_X0_kindOf F K E hA Z h198 ⟨by show 3 ≤ frr + 1; omega, by show 63 ≤ lor + 29; omega⟩ hl.1 (Nat.le_of_ble_eq_true rfl) dX0_formulaOf_198 (fun H locs Z => ?_)
      refine lv_iconst (v := 5) hx hb dX0_formulaOf_201 (by decide) ?_
      refine lv_icmp_ne (tgt := 240) hx hb dX0_formulaOf_202 (by decide) (fun c202 => ?_) (fun c202 => ?_)
      · have hf := if_f c202 hf
        refine lv_iconst (v := -1) hx hb dX0_formulaOf_240 (by decide) ?_
        have hf := Option.some.inj hf
        subst hf
        exact ret_i F hr hk Z dX0_formulaOf_241
      have hf := if_t c202 hf
      refine lv_aload_n hx hb dX0_formulaOf_205 rfl (lv_at hl 2 rfl) ?_
      refine lv_aload_n hx hb dX0_formulaOf_206 rfl (lv_at hl 2 rfl) ?_
      refine grX0_27_46 F K Z dX0_formulaOf_207 ?_
      refine lv_iload_n hx hb dX0_formulaOf_210 rfl (lv_at hl 3 rfl) ?_
      refine lv_iconst (v := 1) hx hb dX0_formulaOf_211 (by decide) ?_
      obtain ⟨q212, h212, hf⟩ := bind_some hf
      refine krX0_55_X7_partOf_T0 F K E hA Z h212 ⟨by show 2 ≤ frr + 1; omega, by show 43 ≤ lor + 29; omega⟩ hl.1 (Nat.le_of_ble_eq_true rfl) dX0_formulaOf_212 (fun H locs Z => ?_)
      refine lv_aload_n hx hb dX0_formulaOf_215 rfl (lv_at hl 2 rfl) ?_
      refine lv_iload hx hb dX0_formulaOf_216 (lv_at hl 0 rfl) ?_
      obtain ⟨q218, h218, hf⟩ := bind_some hf
      refine krX0_63_X0_firstOf F K E hA Z h218 ⟨by show 3 ≤ frr + 1; omega, by show 63 ≤ lor + 29; omega⟩ hl.1 (Nat.le_of_ble_eq_true rfl) dX0_formulaOf_218 (fun H locs Z => ?_)
      refine lv_iload_n hx hb dX0_formulaOf_221 rfl (lv_at hl 4 rfl) ?_
      refine lv_iload_n hx hb dX0_formulaOf_222 rfl (lv_at hl 5 rfl) ?_
      refine lv_iconst (v := 1) hx hb dX0_formulaOf_223 (by decide) ?_
      refine lv_iadd hx hb dX0_formulaOf_224 ?_
      obtain ⟨q225, h225, hf⟩ := bind_some hf
      refine kroX0_34_X0_isProof F K E hA Z (hr_X0_isProof _ _ _ _ _ _ h225) ⟨by show frr + 1 ≤ frr + 1; omega, by show 27 + lor ≤ lor + 29; omega⟩ hl.1 (Nat.le_of_ble_eq_true rfl) dX0_formulaOf_225 (fun H locs Z => ?_)
      refine lv_if_eq (tgt := 240) hx hb dX0_formulaOf_228 (by decide) (fun c228 => ?_) (fun c228 => ?_)
      · have hf := if_t c228 hf
        refine lv_iconst (v := -1) hx hb dX0_formulaOf_240 (by decide) ?_
        have hf := Option.some.inj hf
        subst hf
        exact ret_i F hr hk Z dX0_formulaOf_241
      have hf := if_f c228 hf
      refine lv_aload_n hx hb dX0_formulaOf_231 rfl (lv_at hl 2 rfl) ?_
      refine lv_iload hx hb dX0_formulaOf_232 (lv_at hl 0 rfl) ?_
      obtain ⟨q234, h234, hf⟩ := bind_some hf
      refine krX0_71_X0_secondOf F K E hA Z h234 ⟨by show 3 ≤ frr + 1; omega, by show 63 ≤ lor + 29; omega⟩ hl.1 (Nat.le_of_ble_eq_true rfl) dX0_formulaOf_234 (fun H locs Z => ?_)
      refine lv_goto (tgt := 241) hx hb dX0_formulaOf_237 (by decide) ?_
      have hf := Option.some.inj hf
      subst hf
      exact ret_i F hr hk Z dX0_formulaOf_241
    have hf := if_f c27_65 hf
    by_cases c27_70 : q24.1 = 70
    · have hf := if_t c27_70 hf
      refine lv_lookup (tgt := 242) hx hb dX0_formulaOf_27 (by decide) (by rw [c27_70] <;> decide) (by decide) ?_
      refine lv_aload_n hx hb dX0_formulaOf_242 rfl (lv_at hl 1 rfl) ?_
      refine lv_iload hx hb dX0_formulaOf_243 (lv_at hl 0 rfl) ?_
      refine lv_iload_n hx hb dX0_formulaOf_245 rfl (lv_at hl 3 rfl) ?_
      refine lv_iload_n hx hb dX0_formulaOf_246 rfl (lv_at hl 4 rfl) ?_
      refine lv_iconst (v := 1) hx hb dX0_formulaOf_247 (by decide) ?_
      refine lv_iadd hx hb dX0_formulaOf_248 ?_
      obtain ⟨q249, h249, hf⟩ := bind_some hf
      refine kroX0_72_X0_formulaOf F K E hA Z (hr_X0_formulaOf _ _ _ _ _ h249) ⟨by show frr + 1 ≤ frr + 1; omega, by show 29 + lor ≤ lor + 29; omega⟩ hl.1 (Nat.le_of_ble_eq_true rfl) dX0_formulaOf_249 (fun H locs Z => ?_)
      refine lv_istore (lv' := [(8, .int q249.1), (4, .int q14.1), (0, .ref (ad 46)), (1, .int x1), (2, .int x2), (3, .int x3)]) hx hb dX0_formulaOf_252 hl (by decide) rfl (fun ls hl => ?_)
      refine lv_aload_n hx hb dX0_formulaOf_254 rfl (lv_at hl 2 rfl) ?_
      refine lv_iload hx hb dX0_formulaOf_255 (lv_at hl 0 rfl) ?_
      obtain ⟨q257, h257, hf⟩ := bind_some hf
      refine krX0_62_X0_kindOf F K E hA Z h257 ⟨by show 3 ≤ frr + 1; omega, by show 63 ≤ lor + 29; omega⟩ hl.1 (Nat.le_of_ble_eq_true rfl) dX0_formulaOf_257 (fun H locs Z => ?_)
      refine lv_iconst (v := 3) hx hb dX0_formulaOf_260 (by decide) ?_
      refine lv_icmp_ne (tgt := 273) hx hb dX0_formulaOf_261 (by decide) (fun c261 => ?_) (fun c261 => ?_)
      · have hf := if_f c261 hf
        refine lv_iconst (v := -1) hx hb dX0_formulaOf_273 (by decide) ?_
        have hf := Option.some.inj hf
        subst hf
        exact ret_i F hr hk Z dX0_formulaOf_274
      have hf := if_t c261 hf
      refine lv_aload_n hx hb dX0_formulaOf_264 rfl (lv_at hl 2 rfl) ?_
      refine lv_iload hx hb dX0_formulaOf_265 (lv_at hl 0 rfl) ?_
      obtain ⟨q267, h267, hf⟩ := bind_some hf
      refine krX0_63_X0_firstOf F K E hA Z h267 ⟨by show 3 ≤ frr + 1; omega, by show 63 ≤ lor + 29; omega⟩ hl.1 (Nat.le_of_ble_eq_true rfl) dX0_formulaOf_267 (fun H locs Z => ?_)
      refine lv_goto (tgt := 274) hx hb dX0_formulaOf_270 (by decide) ?_
      have hf := Option.some.inj hf
      subst hf
      exact ret_i F hr hk Z dX0_formulaOf_274
    have hf := if_f c27_70 hf
    by_cases c27_76 : q24.1 = 76
    · have hf := if_t c27_76 hf
      refine lv_lookup (tgt := 102) hx hb dX0_formulaOf_27 (by decide) (by rw [c27_76] <;> decide) (by decide) ?_
      refine lv_aload_n hx hb dX0_formulaOf_102 rfl (lv_at hl 1 rfl) ?_
      refine grX0_27_46 F K Z dX0_formulaOf_103 ?_
      refine lv_iload_n hx hb dX0_formulaOf_106 rfl (lv_at hl 2 rfl) ?_
      obtain ⟨q107, h107, hf⟩ := bind_some hf
      refine krX0_64_X7_formulaOf_T0 F K E hA Z h107 ⟨by show 3 ≤ frr + 1; omega, by show 64 ≤ lor + 29; omega⟩ hl.1 (Nat.le_of_ble_eq_true rfl) dX0_formulaOf_107 (fun H locs Z => ?_)
      refine lv_istore (lv' := [(5, .int q107.1), (4, .int q14.1), (0, .ref (ad 46)), (1, .int x1), (2, .int x2), (3, .int x3)]) hx hb dX0_formulaOf_110 hl (by decide) rfl (fun ls hl => ?_)
      refine lv_aload_n hx hb dX0_formulaOf_112 rfl (lv_at hl 2 rfl) ?_
      refine lv_iload hx hb dX0_formulaOf_113 (lv_at hl 0 rfl) ?_
      refine lv_iload_n hx hb dX0_formulaOf_115 rfl (lv_at hl 4 rfl) ?_
      obtain ⟨q116, h116, hf⟩ := bind_some hf
      refine krX0_67_X0_binds F K E hA Z h116 ⟨by show 1 ≤ frr + 1; omega, by show 22 ≤ lor + 29; omega⟩ hl.1 (Nat.le_of_ble_eq_true rfl) dX0_formulaOf_116 (fun H locs Z => ?_)
      refine lv_if_eq (tgt := 144) hx hb dX0_formulaOf_119 (by decide) (fun c119 => ?_) (fun c119 => ?_)
      · have hf := if_t c119 hf
        refine lv_iconst (v := -1) hx hb dX0_formulaOf_144 (by decide) ?_
        have hf := Option.some.inj hf
        subst hf
        exact ret_i F hr hk Z dX0_formulaOf_145
      have hf := if_f c119 hf
      refine lv_aload_n hx hb dX0_formulaOf_122 rfl (lv_at hl 2 rfl) ?_
      refine lv_iconst (v := 5) hx hb dX0_formulaOf_123 (by decide) ?_
      refine lv_iload hx hb dX0_formulaOf_124 (lv_at hl 0 rfl) ?_
      refine lv_aload_n hx hb dX0_formulaOf_126 rfl (lv_at hl 2 rfl) ?_
      refine lv_iload hx hb dX0_formulaOf_127 (lv_at hl 1 rfl) ?_
      refine lv_iload_n hx hb dX0_formulaOf_129 rfl (lv_at hl 4 rfl) ?_
      refine lv_iconst (v := 1) hx hb dX0_formulaOf_130 (by decide) ?_
      refine lv_iadd hx hb dX0_formulaOf_131 ?_
      refine lv_iload_n hx hb dX0_formulaOf_132 rfl (lv_at hl 5 rfl) ?_
      refine lv_iconst (v := 1) hx hb dX0_formulaOf_133 (by decide) ?_
      refine lv_iadd hx hb dX0_formulaOf_134 ?_
      obtain ⟨q135, h135, hf⟩ := bind_some hf
      refine kroX0_72_X0_formulaOf F K E hA Z (hr_X0_formulaOf _ _ _ _ _ h135) ⟨by show frr + 1 ≤ frr + 1; omega, by show 29 + lor ≤ lor + 29; omega⟩ hl.1 (Nat.le_of_ble_eq_true rfl) dX0_formulaOf_135 (fun H locs Z => ?_)
      obtain ⟨q138, h138, hf⟩ := bind_some hf
      refine krX0_77_X0_joined F K E hA Z h138 ⟨by show 3 ≤ frr + 1; omega, by show 76 ≤ lor + 29; omega⟩ hl.1 (Nat.le_of_ble_eq_true rfl) dX0_formulaOf_138 (fun H locs Z => ?_)
      refine lv_goto (tgt := 145) hx hb dX0_formulaOf_141 (by decide) ?_
      have hf := Option.some.inj hf
      subst hf
      exact ret_i F hr hk Z dX0_formulaOf_145
    have hf := if_f c27_76 hf
    by_cases c27_80 : q24.1 = 80
    · have hf := if_t c27_80 hf
      refine lv_lookup (tgt := 146) hx hb dX0_formulaOf_27 (by decide) (by rw [c27_80] <;> decide) (by decide) ?_
      refine lv_aload_n hx hb dX0_formulaOf_146 rfl (lv_at hl 1 rfl) ?_
      refine lv_iload hx hb dX0_formulaOf_147 (lv_at hl 0 rfl) ?_
      refine lv_iload_n hx hb dX0_formulaOf_149 rfl (lv_at hl 3 rfl) ?_
      refine lv_iload_n hx hb dX0_formulaOf_150 rfl (lv_at hl 4 rfl) ?_
      refine lv_iconst (v := 1) hx hb dX0_formulaOf_151 (by decide) ?_
      refine lv_iadd hx hb dX0_formulaOf_152 ?_
      obtain ⟨q153, h153, hf⟩ := bind_some hf
      refine kroX0_72_X0_formulaOf F K E hA Z (hr_X0_formulaOf _ _ _ _ _ h153) ⟨by show frr + 1 ≤ frr + 1; omega, by show 29 + lor ≤ lor + 29; omega⟩ hl.1 (Nat.le_of_ble_eq_true rfl) dX0_formulaOf_153 (fun H locs Z => ?_)
      refine lv_istore (lv' := [(6, .int q153.1), (4, .int q14.1), (0, .ref (ad 46)), (1, .int x1), (2, .int x2), (3, .int x3)]) hx hb dX0_formulaOf_156 hl (by decide) rfl (fun ls hl => ?_)
      refine lv_aload_n hx hb dX0_formulaOf_158 rfl (lv_at hl 2 rfl) ?_
      refine lv_iconst (v := 3) hx hb dX0_formulaOf_159 (by decide) ?_
      refine lv_iload hx hb dX0_formulaOf_160 (lv_at hl 0 rfl) ?_
      refine lv_aload_n hx hb dX0_formulaOf_162 rfl (lv_at hl 2 rfl) ?_
      refine lv_aload_n hx hb dX0_formulaOf_163 rfl (lv_at hl 2 rfl) ?_
      refine grX0_27_46 F K Z dX0_formulaOf_164 ?_
      refine lv_iload_n hx hb dX0_formulaOf_167 rfl (lv_at hl 3 rfl) ?_
      refine lv_iconst (v := 1) hx hb dX0_formulaOf_168 (by decide) ?_
      obtain ⟨q169, h169, hf⟩ := bind_some hf
      refine krX0_55_X7_partOf_T0 F K E hA Z h169 ⟨by show 2 ≤ frr + 1; omega, by show 43 ≤ lor + 29; omega⟩ hl.1 (Nat.le_of_ble_eq_true rfl) dX0_formulaOf_169 (fun H locs Z => ?_)
      refine lv_iload_n hx hb dX0_formulaOf_172 rfl (lv_at hl 4 rfl) ?_
      refine lv_iload_n hx hb dX0_formulaOf_173 rfl (lv_at hl 5 rfl) ?_
      refine lv_iconst (v := 1) hx hb dX0_formulaOf_174 (by decide) ?_
      refine lv_iadd hx hb dX0_formulaOf_175 ?_
      obtain ⟨q176, h176, hf⟩ := bind_some hf
      refine kroX0_72_X0_formulaOf F K E hA Z (hr_X0_formulaOf _ _ _ _ _ h176) ⟨by show frr + 1 ≤ frr + 1; omega, by show 29 + lor ≤ lor + 29; omega⟩ hl.1 (Nat.le_of_ble_eq_true rfl) dX0_formulaOf_176 (fun H locs Z => ?_)
      obtain ⟨q179, h179, hf⟩ := bind_some hf
      refine krX0_77_X0_joined F K E hA Z h179 ⟨by show 3 ≤ frr + 1; omega, by show 76 ≤ lor + 29; omega⟩ hl.1 (Nat.le_of_ble_eq_true rfl) dX0_formulaOf_179 (fun H locs Z => ?_)
      have hf := Option.some.inj hf
      subst hf
      exact ret_i F hr hk Z dX0_formulaOf_182
    have hf := if_f c27_80 hf
    by_cases c27_83 : q24.1 = 83
    · have hf := if_t c27_83 hf
      refine lv_lookup (tgt := 275) hx hb dX0_formulaOf_27 (by decide) (by rw [c27_83] <;> decide) (by decide) ?_
      refine lv_aload_n hx hb dX0_formulaOf_275 rfl (lv_at hl 1 rfl) ?_
      refine lv_iload hx hb dX0_formulaOf_276 (lv_at hl 0 rfl) ?_
      refine lv_iload_n hx hb dX0_formulaOf_278 rfl (lv_at hl 3 rfl) ?_
      refine lv_iload_n hx hb dX0_formulaOf_279 rfl (lv_at hl 4 rfl) ?_
      refine lv_iconst (v := 1) hx hb dX0_formulaOf_280 (by decide) ?_
      refine lv_iadd hx hb dX0_formulaOf_281 ?_
      obtain ⟨q282, h282, hf⟩ := bind_some hf
      refine kroX0_72_X0_formulaOf F K E hA Z (hr_X0_formulaOf _ _ _ _ _ h282) ⟨by show frr + 1 ≤ frr + 1; omega, by show 29 + lor ≤ lor + 29; omega⟩ hl.1 (Nat.le_of_ble_eq_true rfl) dX0_formulaOf_282 (fun H locs Z => ?_)
      refine lv_istore (lv' := [(9, .int q282.1), (4, .int q14.1), (0, .ref (ad 46)), (1, .int x1), (2, .int x2), (3, .int x3)]) hx hb dX0_formulaOf_285 hl (by decide) rfl (fun ls hl => ?_)
      refine lv_aload_n hx hb dX0_formulaOf_287 rfl (lv_at hl 2 rfl) ?_
      refine lv_iload hx hb dX0_formulaOf_288 (lv_at hl 0 rfl) ?_
      obtain ⟨q290, h290, hf⟩ := bind_some hf
      refine krX0_62_X0_kindOf F K E hA Z h290 ⟨by show 3 ≤ frr + 1; omega, by show 63 ≤ lor + 29; omega⟩ hl.1 (Nat.le_of_ble_eq_true rfl) dX0_formulaOf_290 (fun H locs Z => ?_)
      refine lv_iconst (v := 3) hx hb dX0_formulaOf_293 (by decide) ?_
      refine lv_icmp_ne (tgt := 306) hx hb dX0_formulaOf_294 (by decide) (fun c294 => ?_) (fun c294 => ?_)
      · have hf := if_f c294 hf
        refine lv_iconst (v := -1) hx hb dX0_formulaOf_306 (by decide) ?_
        have hf := Option.some.inj hf
        subst hf
        exact ret_i F hr hk Z dX0_formulaOf_307
      have hf := if_t c294 hf
      refine lv_aload_n hx hb dX0_formulaOf_297 rfl (lv_at hl 2 rfl) ?_
      refine lv_iload hx hb dX0_formulaOf_298 (lv_at hl 0 rfl) ?_
      obtain ⟨q300, h300, hf⟩ := bind_some hf
      refine krX0_71_X0_secondOf F K E hA Z h300 ⟨by show 3 ≤ frr + 1; omega, by show 63 ≤ lor + 29; omega⟩ hl.1 (Nat.le_of_ble_eq_true rfl) dX0_formulaOf_300 (fun H locs Z => ?_)
      refine lv_goto (tgt := 307) hx hb dX0_formulaOf_303 (by decide) ?_
      have hf := Option.some.inj hf
      subst hf
      exact ret_i F hr hk Z dX0_formulaOf_307
    have hf := if_f c27_83 hf
    by_cases c27_84 : q24.1 = 84
    · have hf := if_t c27_84 hf
      refine lv_lookup (tgt := 100) hx hb dX0_formulaOf_27 (by decide) (by rw [c27_84] <;> decide) (by decide) ?_
      refine lv_iconst (v := 1) hx hb dX0_formulaOf_100 (by decide) ?_
      have hf := Option.some.inj hf
      subst hf
      exact ret_i F hr hk Z dX0_formulaOf_101
    have hf := if_f c27_84 hf
    by_cases c27_104 : q24.1 = 104
    · have hf := if_t c27_104 hf
      refine lv_lookup (tgt := 92) hx hb dX0_formulaOf_27 (by decide) (by rw [c27_104] <;> decide) (by decide) ?_
      refine lv_aload_n hx hb dX0_formulaOf_92 rfl (lv_at hl 1 rfl) ?_
      refine lv_iload hx hb dX0_formulaOf_93 (lv_at hl 0 rfl) ?_
      refine lv_iload_n hx hb dX0_formulaOf_95 rfl (lv_at hl 3 rfl) ?_
      obtain ⟨q96, h96, hf⟩ := bind_some hf
      refine krX0_74_X0_hypothesis F K E hA Z h96 ⟨by show 1 ≤ frr + 1; omega, by show 22 ≤ lor + 29; omega⟩ hl.1 (Nat.le_of_ble_eq_true rfl) dX0_formulaOf_96 (fun H locs Z => ?_)
      have hf := Option.some.inj hf
      subst hf
      exact ret_i F hr hk Z dX0_formulaOf_99
    have hf := if_f c27_104 hf
    refine lv_lookup (tgt := 308) hx hb dX0_formulaOf_27 (by decide) (off := 281) ?_ (by decide) ?_
    · exact (lv_osw c27_65 (by decide)).trans ((lv_osw c27_70 (by decide)).trans ((lv_osw c27_76 (by decide)).trans ((lv_osw c27_80 (by decide)).trans ((lv_osw c27_83 (by decide)).trans ((lv_osw c27_84 (by decide)).trans ((lv_osw c27_104 (by decide)).trans (rfl)))))))
    refine lv_iconst (v := -1) hx hb dX0_formulaOf_308 (by decide) ?_
    have hf := Option.some.inj hf
    subst hf
    exact ret_i F hr hk Z dX0_formulaOf_309
  have hf := if_f c3 hf
  refine lv_iconst (v := -1) hx hb dX0_formulaOf_6 (by decide) ?_
  have hf := Option.some.inj hf
  subst hf
  exact ret_i F hr hk Z dX0_formulaOf_7
def rec_CK (n : Nat) : Nat → (StT → Int32 → Int32 → Int32 → Int32 → Option (Int32 × StT)) × (StT → Int32 → Int32 → Int32 → Option (Int32 × StT))
  | 0 => ((fun _ _ _ _ _ => none), (fun _ _ _ _ => none))
  | d + 1 => ((fun st x1 x2 x3 x4 => g_X0_isProof n (rec_CK n d).1 (rec_CK n d).2 st x1 x2 x3 x4), (fun st x1 x2 x3 => g_X0_formulaOf n (rec_CK n d).1 (rec_CK n d).2 st x1 x2 x3))
theorem rec_CK_ok {l : Launch} {D : va_G} {ad : Nat → Nat} {cy : Nat → ClassId} {ee : EE} {n : Nat} : ∀ d : Nat, (∀ (st : StT) (x1 : Int32) (x2 : Int32) (x3 : Int32) (x4 : Int32) (res : (Int32 × StT)), (rec_CK n d).1 st x1 x2 x3 x4 = some res → CT l yX0_isProof cX0_isProof 8 (some .boolean) (3 + d) (76 + 29 * d) D cy ee (wC ad cy st) (wC ad cy res.2) [.ref (ad 46), .int x1, .int x2, .int x3, .int x4] (some (.int res.1))) ∧ (∀ (st : StT) (x1 : Int32) (x2 : Int32) (x3 : Int32) (res : (Int32 × StT)), (rec_CK n d).2 st x1 x2 x3 = some res → CT l yX0_formulaOf cX0_formulaOf 10 (some .int) (3 + d) (76 + 29 * d) D cy ee (wC ad cy st) (wC ad cy res.2) [.ref (ad 46), .int x1, .int x2, .int x3] (some (.int res.1))) := by
  intro d
  induction d with
  | zero =>
    refine ⟨?_, ?_⟩ <;> (intros; rename_i h; cases h)
  | succ d ih =>
    obtain ⟨ih0, ih1⟩ := ih
    refine ⟨?_, ?_⟩
    · intro st x1 x2 x3 x4 res hf
      exact o_X0_isProof (frr := 3 + d) (lor := 76 + 29 * d) (by omega) (by omega) ih0 ih1 hf
    · intro st x1 x2 x3 res hf
      exact o_X0_formulaOf (frr := 3 + d) (lor := 76 + 29 * d) (by omega) (by omega) ih0 ih1 hf
def f_X0_isProof (n : Nat) (st : StT) (x1 : Int32) (x2 : Int32) (x3 : Int32) (x4 : Int32) : Option (Int32 × StT) := (rec_CK n 130).1 st x1 x2 x3 x4
theorem c_X0_isProof {l : Launch} {D : va_G} {ad : Nat → Nat} {cy : Nat → ClassId} {ee : EE} {n : Nat} {st : StT} {x1 : Int32} {x2 : Int32} {x3 : Int32} {x4 : Int32} {res : (Int32 × StT)} (hf : f_X0_isProof n st x1 x2 x3 x4 = some res) : CT l yX0_isProof cX0_isProof 8 (some .boolean) 133 3846 D cy ee (wC ad cy st) (wC ad cy res.2) [.ref (ad 46), .int x1, .int x2, .int x3, .int x4] (some (.int res.1)) := (rec_CK_ok 130).1 st x1 x2 x3 x4 res hf
def f_X0_formulaOf (n : Nat) (st : StT) (x1 : Int32) (x2 : Int32) (x3 : Int32) : Option (Int32 × StT) := (rec_CK n 130).2 st x1 x2 x3
theorem c_X0_formulaOf {l : Launch} {D : va_G} {ad : Nat → Nat} {cy : Nat → ClassId} {ee : EE} {n : Nat} {st : StT} {x1 : Int32} {x2 : Int32} {x3 : Int32} {res : (Int32 × StT)} (hf : f_X0_formulaOf n st x1 x2 x3 = some res) : CT l yX0_formulaOf cX0_formulaOf 10 (some .int) 133 3846 D cy ee (wC ad cy st) (wC ad cy res.2) [.ref (ad 46), .int x1, .int x2, .int x3] (some (.int res.1)) := (rec_CK_ok 130).2 st x1 x2 x3 res hf
def f_X0_accepts_1_10 (n : Nat) : Nat → StT → Int32 → Int32 → Int32 → Int32 → Option (Int32 × StT)
  | 0, _, _, _, _, _ => none
  | k + 1, st, x1, x2, x4, x5 => if x4 ≤ x5 then ((f_X0_isProof n st x1 x2 x4 (0 : Int32)).bind fun q54 => (if isZ q54.1 = true then some (q54.1, q54.2) else none)) else (if (20 : Int32) ≤ x5 then ((f_X0_isProof n st x1 x2 x4 (0 : Int32)).bind fun q54 => (if isZ q54.1 = true then some (q54.1, q54.2) else none)) else (if (60 : Int32) ≤ x5 then ((f_X0_isProof n st x1 x2 x4 (0 : Int32)).bind fun q54 => (if isZ q54.1 = true then some (q54.1, q54.2) else none)) else (if inB x5 20 = true then (if inB x5 60 = true then (f_X0_accepts_1_10 n k (uA st 40 x5 (st.2.1 0 (x5).toNatClampNeg)) x1 x2 x4 (x5 + (1 : Int32))) else none) else none)))
def f_X0_accepts_1 (n : Nat) (st : StT) (x1 : Int32) (x2 : Int32) (x4 : Int32) : Option (Int32 × StT) := (f_X1_drop_F1 n st).bind fun q4 => (f_X0_accepts_1_10 n n q4 x1 x2 x4 (0 : Int32))
theorem wd778 : Cond.methodLink RX0 31 yX1_drop ∈ Gw := gT5 (List.mem_of_getElem? (i := 86) rfl) rfl
theorem wd779 : Cond.code yX1_drop prog_3_method_14_code 2 none ∈ Gw := gT5 (List.mem_of_getElem? (i := 89) rfl) rfl
theorem wd780 : Cond.instanceMethod yX1_drop ∈ Gw := gT5 (List.mem_of_getElem? (i := 87) rfl) rfl
theorem wd781 : Cond.selects RX1 yX1_drop yX1_drop ∈ Gw := gT5 (List.mem_of_getElem? (i := 88) rfl) rfl
section
variable {p : Program} {l : Launch} {e : Env} {R : Room} {s : State} {m : MethodId} {args : Array Value} {below : List Frame} {meth : Method} {c : Code} {H : Heap} {locs : List Loc} {Q : State → Prop}
variable {cc : ByteArray} {nL pc : Nat} {ls : Array Slot} {rest : List Value} {D : va_G} {A : Nat → Prop} {cw : Cond} {ad : Nat → Nat} {cy : Nat → ClassId} {ee : EE} {st : StT} {own : String}
theorem krX0_31_X1_drop_F1 {n : Nat}  {q : StT} (F : CallFix p m c cc nL s args (cw :: Gw) RX0) (K : va_K D vwCl (tyL cy) s) (E : EV ee A s s.heap) (hA : ∀ q, s.heap.size ≤ q → A q) (Z : ZG D (wC ad cy st) A s H locs) (hf : f_X1_drop_F1 n st = some q) (hR : 2 ≤ R.frames ∧ 43 ≤ R.locals) (hl : ls.size = nL) (hst : (rest.map fun v => v.category).sum ≤ 8) (hd : decode cc pc = .ok (.invokevirtual 31, 3)) (kk : ∀ (H1 : Heap) (locs1 : List Loc), ZG D (wC ad cy q) A s H1 locs1 → W p l e R s m args below meth c H1 locs1 0 0 Q (F0 m (pc + 3) ls (rest))) : W p l e R s m args below meth c H locs 0 0 Q (F0 m pc ls (.ref (ad 47) :: rest)) :=
  call_V (q := (RX1, TX1, 9)) (n := 0) (As := []) (rv := none) 47 1 F K E hA Z (c_X1_drop_F1 (l := l) (D := D) (ad := ad) (cy := cy) (ee := ee) hf) ⟨wd779, wd778, wd780, wd781, wd17⟩ (by decide +kernel) rfl rfl hR rfl hl hst hd kk
theorem krX0_34_X0_isProof {n : Nat} {a0 : Int32} {a1 : Int32} {a2 : Int32} {a3 : Int32} {q : (Int32 × StT)} (F : CallFix p m c cc nL s args (cw :: Gw) RX0) (K : va_K D vwCl (tyL cy) s) (E : EV ee A s s.heap) (hA : ∀ q, s.heap.size ≤ q → A q) (Z : ZG D (wC ad cy st) A s H locs) (hf : f_X0_isProof n st a0 a1 a2 a3 = some q) (hR : 134 ≤ R.frames ∧ 3873 ≤ R.locals) (hl : ls.size = nL) (hst : (rest.map fun v => v.category).sum ≤ 8) (hd : decode cc pc = .ok (.invokevirtual 34, 3)) (kk : ∀ (H1 : Heap) (locs1 : List Loc), ZG D (wC ad cy q.2) A s H1 locs1 → W p l e R s m args below meth c H1 locs1 0 0 Q (F0 m (pc + 3) ls (.int q.1 :: rest))) : W p l e R s m args below meth c H locs 0 0 Q (F0 m pc ls (.int a3 :: .int a2 :: .int a1 :: .int a0 :: .ref (ad 46) :: rest)) :=
  call_V (q := (RX0, TX0, 4)) (n := 4) (As := [.int a0, .int a1, .int a2, .int a3]) (rv := some (.int q.1)) 46 0 F K E hA Z (c_X0_isProof (l := l) (D := D) (ad := ad) (cy := cy) (ee := ee) hf) ⟨wd748, wd747, wd749, wd750, wd746⟩ (by decide +kernel) rfl rfl hR rfl hl hst hd kk
end
set_option maxRecDepth 100000 in
set_option maxHeartbeats 4000000 in
theorem b_X0_accepts_1_10 {p : Program} {l : Launch} {e : Env} {s : State} {m : MethodId} {args : Array Value} {below : List Frame} {meth : Method} {c : Code} {D : va_G} {A : Nat → Prop} {ad : Nat → Nat} {cy : Nat → ClassId} {ee : EE} {n : Nat} {res : (Int32 × StT)} (F : CallFix p m c cX0_accepts 6 s args (Cond.code yX0_accepts cX0_accepts 6 (some .boolean) :: Gw) yX0_accepts.cls) (hr : meth.sig.returnType = (some .boolean)) (hk : meth.locks = false) (K : va_K D vwCl (tyL cy) s) (E : EV ee A s s.heap) (hA : ∀ q, s.heap.size ≤ q → A q) : ∀ (k : Nat) (st : StT) (x1 : Int32) (x2 : Int32) (x4 : Int32) (x5 : Int32), f_X0_accepts_1_10 n k st x1 x2 x4 x5 = some res → ∀ (H : Heap) (locs : List Loc) (ls : Array Slot), ZG D (wC ad cy st) A s H locs → lv_has ls 6 [(0, .ref (ad 46)), (1, .int x1), (2, .int x2), (3, .ref (ad 1)), (4, .int x4), (5, .int x5)] → W p l e { frames := 134, cells := 0, slots := 0, locals := 3873 } s m args below meth c H locs 0 0 (MQ below (QC D (some (.int res.1)) (wC ad cy res.2) A) args s 0 0 A) (F0 m 10 ls []) := by
  have hx := F.1
  have hb := F.2.1
  intro k
  induction k with
  | zero =>
    intro st x1 x2 x4 x5 hf
    exact absurd hf (by simp [f_X0_accepts_1_10])
  | succ k ih =>
    intro st x1 x2 x4 x5 hf H locs ls Z hl
    rw [f_X0_accepts_1_10] at hf
    refine lv_iload hx hb dX0_accepts_10 (lv_at hl 5 rfl) ?_
    refine lv_iload hx hb dX0_accepts_12 (lv_at hl 4 rfl) ?_
    refine lv_icmp_ge (tgt := 48) hx hb dX0_accepts_14 (by decide) (fun c14 => ?_) (fun c14 => ?_)
    · have hf := if_t c14 hf
      refine lv_aload_n hx hb dX0_accepts_48 rfl (lv_at hl 0 rfl) ?_
      refine lv_iload_n hx hb dX0_accepts_49 rfl (lv_at hl 1 rfl) ?_
      refine lv_iload_n hx hb dX0_accepts_50 rfl (lv_at hl 2 rfl) ?_
      refine lv_iload hx hb dX0_accepts_51 (lv_at hl 4 rfl) ?_
      refine lv_iconst (v := 0) hx hb dX0_accepts_53 (by decide) ?_
      obtain ⟨q54, h54, hf⟩ := bind_some hf
      refine krX0_34_X0_isProof F K E hA Z h54 ⟨Nat.le_of_ble_eq_true rfl, Nat.le_of_ble_eq_true rfl⟩ hl.1 (Nat.le_of_ble_eq_true rfl) dX0_accepts_54 (fun H locs Z => ?_)
      obtain ⟨i57, hf⟩ := if_some hf
      have hf := Option.some.inj hf
      subst hf
      exact ret_z F hr hk Z i57 dX0_accepts_57
    have hf := if_f c14 hf
    refine lv_iload hx hb dX0_accepts_17 (lv_at hl 5 rfl) ?_
    refine lv_aload_n hx hb dX0_accepts_19 rfl (lv_at hl 3 rfl) ?_
    refine an1 F K Z dX0_accepts_20 ?_
    refine lv_icmp_ge (tgt := 48) hx hb dX0_accepts_21 (by decide) (fun c21 => ?_) (fun c21 => ?_)
    · have hf := if_t c21 hf
      refine lv_aload_n hx hb dX0_accepts_48 rfl (lv_at hl 0 rfl) ?_
      refine lv_iload_n hx hb dX0_accepts_49 rfl (lv_at hl 1 rfl) ?_
      refine lv_iload_n hx hb dX0_accepts_50 rfl (lv_at hl 2 rfl) ?_
      refine lv_iload hx hb dX0_accepts_51 (lv_at hl 4 rfl) ?_
      refine lv_iconst (v := 0) hx hb dX0_accepts_53 (by decide) ?_
      obtain ⟨q54, h54, hf⟩ := bind_some hf
      refine krX0_34_X0_isProof F K E hA Z h54 ⟨Nat.le_of_ble_eq_true rfl, Nat.le_of_ble_eq_true rfl⟩ hl.1 (Nat.le_of_ble_eq_true rfl) dX0_accepts_54 (fun H locs Z => ?_)
      obtain ⟨i57, hf⟩ := if_some hf
      have hf := Option.some.inj hf
      subst hf
      exact ret_z F hr hk Z i57 dX0_accepts_57
    have hf := if_f c21 hf
    refine lv_iload hx hb dX0_accepts_24 (lv_at hl 5 rfl) ?_
    refine lv_bipush (v := 60) hx hb dX0_accepts_26 (by decide) ?_
    refine lv_icmp_ge (tgt := 48) hx hb dX0_accepts_28 (by decide) (fun c28 => ?_) (fun c28 => ?_)
    · have hf := if_t c28 hf
      refine lv_aload_n hx hb dX0_accepts_48 rfl (lv_at hl 0 rfl) ?_
      refine lv_iload_n hx hb dX0_accepts_49 rfl (lv_at hl 1 rfl) ?_
      refine lv_iload_n hx hb dX0_accepts_50 rfl (lv_at hl 2 rfl) ?_
      refine lv_iload hx hb dX0_accepts_51 (lv_at hl 4 rfl) ?_
      refine lv_iconst (v := 0) hx hb dX0_accepts_53 (by decide) ?_
      obtain ⟨q54, h54, hf⟩ := bind_some hf
      refine krX0_34_X0_isProof F K E hA Z h54 ⟨Nat.le_of_ble_eq_true rfl, Nat.le_of_ble_eq_true rfl⟩ hl.1 (Nat.le_of_ble_eq_true rfl) dX0_accepts_54 (fun H locs Z => ?_)
      obtain ⟨i57, hf⟩ := if_some hf
      have hf := Option.some.inj hf
      subst hf
      exact ret_z F hr hk Z i57 dX0_accepts_57
    have hf := if_f c28 hf
    refine lv_aload_n hx hb dX0_accepts_31 rfl (lv_at hl 0 rfl) ?_
    refine grX0_20_46 F K Z dX0_accepts_32 ?_
    refine lv_iload hx hb dX0_accepts_35 (lv_at hl 5 rfl) ?_
    refine lv_aload_n hx hb dX0_accepts_37 rfl (lv_at hl 3 rfl) ?_
    refine lv_iload hx hb dX0_accepts_38 (lv_at hl 5 rfl) ?_
    obtain ⟨i40, hf⟩ := if_some hf
    refine al1 F K Z i40 dX0_accepts_40 ?_
    obtain ⟨i41, hf⟩ := if_some hf
    refine as54 F K Z i41 dX0_accepts_41 (fun H locs Z => ?_)
    refine lv_iinc (v := (x5 + (1 : Int32))) (lv' := [(5, .int (x5 + (1 : Int32))), (0, .ref (ad 46)), (1, .int x1), (2, .int x2), (3, .ref (ad 1)), (4, .int x4)]) hx hb dX0_accepts_42 hl (k := 5) rfl (congrArg (fun z => x5 + z) (by decide)) (by decide) rfl (fun ls hl => ?_)
    refine lv_goto (tgt := 10) hx hb dX0_accepts_45 (by decide) ?_
    exact ih _ _ _ _ _ hf _ _ _ Z (lv_sub hl [1, 2, 3, 4, 5, 0] rfl)
set_option maxRecDepth 100000 in
set_option maxHeartbeats 4000000 in
theorem c_X0_accepts_1 {l : Launch} {D : va_G} {ad : Nat → Nat} {cy : Nat → ClassId} {ee : EE} {n : Nat} {st : StT} {x1 : Int32} {x2 : Int32} {x4 : Int32} {res : (Int32 × StT)} (hf : f_X0_accepts_1 n st x1 x2 x4 = some res) : CT l yX0_accepts cX0_accepts 6 (some .boolean) 134 3873 D cy ee (wC ad cy st) (wC ad cy res.2) [.ref (ad 46), .int x1, .int x2, .ref (ad 1), .int x4] (some (.int res.1)) := by
  refine CT.of (by decide +kernel) (Nat.le_of_ble_eq_true rfl) ?_
  intro p e s m args below meth c A F hr hk K E hA Z ls hl
  have hl : lv_has ls 6 [(0, .ref (ad 46)), (1, .int x1), (2, .int x2), (3, .ref (ad 1)), (4, .int x4)] := hl
  have hx := F.1
  have hb := F.2.1
  unfold f_X0_accepts_1 at hf
  refine lv_aload_n hx hb dX0_accepts_0 rfl (lv_at hl 0 rfl) ?_
  refine grX0_14_46 F K Z dX0_accepts_1 ?_
  obtain ⟨q4, h4, hf⟩ := bind_some hf
  refine krX0_31_X1_drop_F1 F K E hA Z h4 ⟨Nat.le_of_ble_eq_true rfl, Nat.le_of_ble_eq_true rfl⟩ hl.1 (Nat.le_of_ble_eq_true rfl) dX0_accepts_4 (fun H locs Z => ?_)
  refine lv_iconst (v := 0) hx hb dX0_accepts_7 (by decide) ?_
  refine lv_istore (lv' := [(5, .int (0 : Int32)), (0, .ref (ad 46)), (1, .int x1), (2, .int x2), (3, .ref (ad 1)), (4, .int x4)]) hx hb dX0_accepts_8 hl (by decide) rfl (fun ls hl => ?_)
  exact b_X0_accepts_1_10 F hr hk K E hA _ _ _ _ _ _ hf _ _ _ Z (lv_sub hl [1, 2, 3, 4, 5, 0] rfl)
