def f_X1_has_F0 (n : Nat) (st : StT) (x1 : Int32) : Option (Int32 × StT) := if x1 < 0 then (some ((0 : Int32), st)) else (if (st.1 6) ≤ x1 then (some ((0 : Int32), st)) else (if (2000 : Int32) ≤ x1 then (some ((0 : Int32), st)) else (some ((1 : Int32), st))))
theorem wd0 : Cond.laysFinal RX1 "WorldProver$Formulas" "room" "I" ∈ Gw := gT1 (List.mem_of_getElem? (i := 88) rfl) rfl
theorem wd1 : Cond.laysFinal RX1 "WorldProver$Formulas" "kinds" "[I" ∈ Gw := gT1 (List.mem_of_getElem? (i := 90) rfl) rfl
theorem wd2 : Cond.laysFinal RX1 "WorldProver$Formulas" "firsts" "[I" ∈ Gw := gT1 (List.mem_of_getElem? (i := 92) rfl) rfl
theorem wd3 : Cond.laysFinal RX1 "WorldProver$Formulas" "seconds" "[I" ∈ Gw := gT1 (List.mem_of_getElem? (i := 94) rfl) rfl
theorem wd4 : Cond.laysFinal RX1 "WorldProver$Formulas" "heads" "[I" ∈ Gw := gT1 (List.mem_of_getElem? (i := 96) rfl) rfl
theorem wd5 : Cond.laysFinal RX1 "WorldProver$Formulas" "nexts" "[I" ∈ Gw := gT1 (List.mem_of_getElem? (i := 98) rfl) rfl
theorem wd6 : Cond.laysFinal RX1 "WorldProver$Formulas" "names" "[J" ∈ Gw := gT1 (List.mem_of_getElem? (i := 100) rfl) rfl
theorem wd7 : Cond.lays RX1 "WorldProver$Formulas" "many" "I" ∈ Gw := gT1 (List.mem_of_getElem? (i := 102) rfl) rfl
theorem wd8 : Cond.lays RX1 "WorldProver$Formulas" "variables" "I" ∈ Gw := gT1 (List.mem_of_getElem? (i := 104) rfl) rfl
theorem wd9 : Cond.fieldLink RX1 45 "WorldProver$Formulas" "many" "I" ∈ Gw := gT1 (List.mem_of_getElem? (i := 86) rfl) rfl
theorem wd10 : Cond.fieldLink RX1 25 "WorldProver$Formulas" "room" "I" ∈ Gw := gT1 (List.mem_of_getElem? (i := 79) rfl) rfl
theorem inG_X1 : ∀ w ∈ u_ws RX1 TX1 9, w ∈ Gw := by
  intro w h
  obtain ⟨k, hk, rfl⟩ := List.mem_map.mp h
  have hk := List.mem_range.mp hk
  by_cases h0 : k = 0
  · subst h0; exact wd0
  by_cases h1 : k = 1
  · subst h1; exact wd1
  by_cases h2 : k = 2
  · subst h2; exact wd2
  by_cases h3 : k = 3
  · subst h3; exact wd3
  by_cases h4 : k = 4
  · subst h4; exact wd4
  by_cases h5 : k = 5
  · subst h5; exact wd5
  by_cases h6 : k = 6
  · subst h6; exact wd6
  by_cases h7 : k = 7
  · subst h7; exact wd7
  by_cases h8 : k = 8
  · subst h8; exact wd8
  omega
section
variable {p : Program} {l : Launch} {e : Env} {R : Room} {s : State} {m : MethodId} {args : Array Value} {below : List Frame} {meth : Method} {c : Code} {H : Heap} {locs : List Loc} {Q : State → Prop}
variable {cc : ByteArray} {nL pc : Nat} {ls : Array Slot} {rest : List Value} {D : va_G} {A : Nat → Prop} {cw : Cond} {ad : Nat → Nat} {cy : Nat → ClassId} {ee : EE} {st : StT} {own : String}
theorem grX1_45_4 (F : CallFix p m c cc nL s args (cw :: Gw) RX1) (K : va_K D vwCl (tyL cy) s) (Z : ZG D (wC ad cy st) A s H locs) (hd : decode cc pc = .ok (.getfield 45, 3)) (kk : W p l e R s m args below meth c H locs 0 0 Q (F0 m (pc + 3) ls (.int (st.1 6) :: rest))) : W p l e R s m args below meth c H locs 0 0 Q (F0 m pc ls (.ref (ad 4) :: rest)) :=
  va_get (D := D) (ci := 1) (C := RX1) (T := TX1) (N := 9) F.1 F.2.1 F.2.2.2.2 (fun w h => List.mem_cons_of_mem _ (inG_X1 w h)) F.2.2.2.1 K Z.1 4 rfl rfl 7 (by decide) (F.2.2.2.2 _ (List.mem_cons_of_mem _ wd9)) (fun _ h => h) rfl hd kk
theorem grX1_25_4 (F : CallFix p m c cc nL s args (cw :: Gw) RX1) (K : va_K D vwCl (tyL cy) s) (Z : ZG D (wC ad cy st) A s H locs) (hd : decode cc pc = .ok (.getfield 25, 3)) (kk : W p l e R s m args below meth c H locs 0 0 Q (F0 m (pc + 3) ls (.int 2000 :: rest))) : W p l e R s m args below meth c H locs 0 0 Q (F0 m pc ls (.ref (ad 4) :: rest)) :=
  va_get (D := D) (ci := 1) (C := RX1) (T := TX1) (N := 9) F.1 F.2.1 F.2.2.2.2 (fun w h => List.mem_cons_of_mem _ (inG_X1 w h)) F.2.2.2.1 K Z.1 4 rfl rfl 0 (by decide) (F.2.2.2.2 _ (List.mem_cons_of_mem _ wd10)) (fun _ h => h) rfl hd kk
end
set_option maxRecDepth 100000 in
set_option maxHeartbeats 4000000 in
theorem c_X1_has_F0 {l : Launch} {D : va_G} {ad : Nat → Nat} {cy : Nat → ClassId} {ee : EE} {n : Nat} {st : StT} {x1 : Int32} {res : (Int32 × StT)} (hf : f_X1_has_F0 n st x1 = some res) : CT l yX1_has cX1_has 2 (some .boolean) 0 0 D cy ee (wC ad cy st) (wC ad cy res.2) [.ref (ad 4), .int x1] (some (.int res.1)) := by
  refine CT.of (by decide +kernel) (Nat.le_of_ble_eq_true rfl) ?_
  intro p e s m args below meth c A F hr hk K E hA Z ls hl
  have hl : lv_has ls 2 [(0, .ref (ad 4)), (1, .int x1)] := hl
  have hx := F.1
  have hb := F.2.1
  unfold f_X1_has_F0 at hf
  refine lv_iload_n hx hb dX1_has_0 rfl (lv_at hl 1 rfl) ?_
  refine lv_if_lt (tgt := 24) hx hb dX1_has_1 (by decide) (fun c1 => ?_) (fun c1 => ?_)
  · have hf := if_t c1 hf
    refine lv_iconst (v := 0) hx hb dX1_has_24 (by decide) ?_
    cases hf
    exact ret_z F hr hk Z rfl dX1_has_25
  have hf := if_f c1 hf
  refine lv_iload_n hx hb dX1_has_4 rfl (lv_at hl 1 rfl) ?_
  refine lv_aload_n hx hb dX1_has_5 rfl (lv_at hl 0 rfl) ?_
  refine grX1_45_4 F K Z dX1_has_6 ?_
  refine lv_icmp_ge (tgt := 24) hx hb dX1_has_9 (by decide) (fun c9 => ?_) (fun c9 => ?_)
  · have hf := if_t c9 hf
    refine lv_iconst (v := 0) hx hb dX1_has_24 (by decide) ?_
    cases hf
    exact ret_z F hr hk Z rfl dX1_has_25
  have hf := if_f c9 hf
  refine lv_iload_n hx hb dX1_has_12 rfl (lv_at hl 1 rfl) ?_
  refine lv_aload_n hx hb dX1_has_13 rfl (lv_at hl 0 rfl) ?_
  refine grX1_25_4 F K Z dX1_has_14 ?_
  refine lv_icmp_ge (tgt := 24) hx hb dX1_has_17 (by decide) (fun c17 => ?_) (fun c17 => ?_)
  · have hf := if_t c17 hf
    refine lv_iconst (v := 0) hx hb dX1_has_24 (by decide) ?_
    cases hf
    exact ret_z F hr hk Z rfl dX1_has_25
  have hf := if_f c17 hf
  refine lv_iconst (v := 1) hx hb dX1_has_20 (by decide) ?_
  refine lv_goto (tgt := 25) hx hb dX1_has_21 (by decide) ?_
  cases hf
  exact ret_z F hr hk Z rfl dX1_has_25
def f_X1_kindOf_F0 (n : Nat) (st : StT) (x1 : Int32) : Option (Int32 × StT) := (f_X1_has_F0 n st x1).bind fun q2 => (if q2.1 = 0 then (some ((-1 : Int32), q2.2)) else (if inB x1 2000 = true then (some ((q2.2.2.1 2 (x1).toNatClampNeg), q2.2)) else none))
theorem wd11 : Cond.fieldLink RX1 29 "WorldProver$Formulas" "kinds" "[I" ∈ Gw := gT1 (List.mem_of_getElem? (i := 80) rfl) rfl
theorem wd12 : Cond.methodLink RX1 51 yX1_has ∈ Gw := gT3 (List.mem_of_getElem? (i := 119) rfl) rfl
theorem wd13 : Cond.code yX1_has prog_3_method_4_code 2 (some .boolean) ∈ Gw := gT3 (List.mem_of_getElem? (i := 122) rfl) rfl
theorem wd14 : Cond.instanceMethod yX1_has ∈ Gw := gT3 (List.mem_of_getElem? (i := 120) rfl) rfl
theorem wd15 : Cond.selects RX1 yX1_has yX1_has ∈ Gw := gT3 (List.mem_of_getElem? (i := 121) rfl) rfl
theorem wd16 : Cond.initialized RX1 ∈ Gw := gT1 (List.mem_of_getElem? (i := 3) rfl) rfl
section
variable {p : Program} {l : Launch} {e : Env} {R : Room} {s : State} {m : MethodId} {args : Array Value} {below : List Frame} {meth : Method} {c : Code} {H : Heap} {locs : List Loc} {Q : State → Prop}
variable {cc : ByteArray} {nL pc : Nat} {ls : Array Slot} {rest : List Value} {D : va_G} {A : Nat → Prop} {cw : Cond} {ad : Nat → Nat} {cy : Nat → ClassId} {ee : EE} {st : StT} {own : String}
theorem grX1_29_4 (F : CallFix p m c cc nL s args (cw :: Gw) RX1) (K : va_K D vwCl (tyL cy) s) (Z : ZG D (wC ad cy st) A s H locs) (hd : decode cc pc = .ok (.getfield 29, 3)) (kk : W p l e R s m args below meth c H locs 0 0 Q (F0 m (pc + 3) ls (.ref (ad 5) :: rest))) : W p l e R s m args below meth c H locs 0 0 Q (F0 m pc ls (.ref (ad 4) :: rest)) :=
  va_get (D := D) (ci := 1) (C := RX1) (T := TX1) (N := 9) F.1 F.2.1 F.2.2.2.2 (fun w h => List.mem_cons_of_mem _ (inG_X1 w h)) F.2.2.2.1 K Z.1 4 rfl rfl 1 (by decide) (F.2.2.2.2 _ (List.mem_cons_of_mem _ wd11)) (fun _ h => h) rfl hd kk
theorem al5 {i : Int32} (F : CallFix p m c cc nL s args (cw :: Gw) own) (K : va_K D vwCl (tyL cy) s) (Z : ZG D (wC ad cy st) A s H locs) (hi : inB i 2000 = true) (hd : decode cc pc = .ok (.iaload, 1)) (kk : W p l e R s m args below meth c H locs 0 0 Q (F0 m (pc + 1) ls (.int (st.2.1 2 i.toNatClampNeg) :: rest))) : W p l e R s m args below meth c H locs 0 0 Q (F0 m pc ls (.int i :: .ref (ad 5) :: rest)) :=
  va_iald F.1 F.2.1 K Z.1 5 1 rfl rfl (inB_vp hi) hd kk
theorem krX1_51_X1_has_F0 {n : Nat} {a0 : Int32} {q : (Int32 × StT)} (F : CallFix p m c cc nL s args (cw :: Gw) RX1) (K : va_K D vwCl (tyL cy) s) (E : EV ee A s s.heap) (hA : ∀ q, s.heap.size ≤ q → A q) (Z : ZG D (wC ad cy st) A s H locs) (hf : f_X1_has_F0 n st a0 = some q) (hR : 1 ≤ R.frames ∧ 21 ≤ R.locals) (hl : ls.size = nL) (hst : (rest.map fun v => v.category).sum ≤ 8) (hd : decode cc pc = .ok (.invokevirtual 51, 3)) (kk : ∀ (H1 : Heap) (locs1 : List Loc), ZG D (wC ad cy q.2) A s H1 locs1 → W p l e R s m args below meth c H1 locs1 0 0 Q (F0 m (pc + 3) ls (.int q.1 :: rest))) : W p l e R s m args below meth c H locs 0 0 Q (F0 m pc ls (.int a0 :: .ref (ad 4) :: rest)) :=
  call_V (q := (RX1, TX1, 9)) (n := 1) (As := [.int a0]) (rv := some (.int q.1)) 4 1 F K E hA Z (c_X1_has_F0 (l := l) (D := D) (ad := ad) (cy := cy) (ee := ee) hf) ⟨wd13, wd12, wd14, wd15, wd16⟩ (by decide +kernel) rfl rfl hR rfl hl hst hd kk
end
set_option maxRecDepth 100000 in
set_option maxHeartbeats 4000000 in
theorem c_X1_kindOf_F0 {l : Launch} {D : va_G} {ad : Nat → Nat} {cy : Nat → ClassId} {ee : EE} {n : Nat} {st : StT} {x1 : Int32} {res : (Int32 × StT)} (hf : f_X1_kindOf_F0 n st x1 = some res) : CT l yX1_kindOf cX1_kindOf 2 (some .int) 1 21 D cy ee (wC ad cy st) (wC ad cy res.2) [.ref (ad 4), .int x1] (some (.int res.1)) := by
  refine CT.of (by decide +kernel) (Nat.le_of_ble_eq_true rfl) ?_
  intro p e s m args below meth c A F hr hk K E hA Z ls hl
  have hl : lv_has ls 2 [(0, .ref (ad 4)), (1, .int x1)] := hl
  have hx := F.1
  have hb := F.2.1
  unfold f_X1_kindOf_F0 at hf
  refine lv_aload_n hx hb dX1_kindOf_0 rfl (lv_at hl 0 rfl) ?_
  refine lv_iload_n hx hb dX1_kindOf_1 rfl (lv_at hl 1 rfl) ?_
  obtain ⟨q2, h2, hf⟩ := bind_some hf
  refine krX1_51_X1_has_F0 F K E hA Z h2 ⟨Nat.le_of_ble_eq_true rfl, Nat.le_of_ble_eq_true rfl⟩ hl.1 (Nat.le_of_ble_eq_true rfl) dX1_kindOf_2 (fun H locs Z => ?_)
  refine lv_if_eq (tgt := 17) hx hb dX1_kindOf_5 (by decide) (fun c5 => ?_) (fun c5 => ?_)
  · have hf := if_t c5 hf
    refine lv_iconst (v := -1) hx hb dX1_kindOf_17 (by decide) ?_
    cases hf
    exact ret_i F hr hk Z dX1_kindOf_18
  have hf := if_f c5 hf
  refine lv_aload_n hx hb dX1_kindOf_8 rfl (lv_at hl 0 rfl) ?_
  refine grX1_29_4 F K Z dX1_kindOf_9 ?_
  refine lv_iload_n hx hb dX1_kindOf_12 rfl (lv_at hl 1 rfl) ?_
  obtain ⟨i13, hf⟩ := if_some hf
  refine al5 F K Z i13 dX1_kindOf_13 ?_
  refine lv_goto (tgt := 18) hx hb dX1_kindOf_14 (by decide) ?_
  cases hf
  exact ret_i F hr hk Z dX1_kindOf_18
def f_X1_chainOf (n : Nat) (st : StT) (x0 : Int32) (x1 : Int32) (x2 : Int32) : Option (Int32 × StT) := some (((((x0 * (331 : Int32)) + (x1 * (613 : Int32))) + (x2 * (37 : Int32))) &&& (1023 : Int32)), st)
theorem wd17 : Cond.fieldLink RX1 11 "WorldProver$Formulas" "heads" "[I" ∈ Gw := gT1 (List.mem_of_getElem? (i := 83) rfl) rfl
theorem wd18 : Cond.fieldLink RX1 32 "WorldProver$Formulas" "firsts" "[I" ∈ Gw := gT1 (List.mem_of_getElem? (i := 81) rfl) rfl
theorem wd19 : Cond.fieldLink RX1 35 "WorldProver$Formulas" "seconds" "[I" ∈ Gw := gT1 (List.mem_of_getElem? (i := 82) rfl) rfl
theorem wd20 : Cond.fieldLink RX1 38 "WorldProver$Formulas" "nexts" "[I" ∈ Gw := gT1 (List.mem_of_getElem? (i := 84) rfl) rfl
section
variable {p : Program} {l : Launch} {e : Env} {R : Room} {s : State} {m : MethodId} {args : Array Value} {below : List Frame} {meth : Method} {c : Code} {H : Heap} {locs : List Loc} {Q : State → Prop}
variable {cc : ByteArray} {nL pc : Nat} {ls : Array Slot} {rest : List Value} {D : va_G} {A : Nat → Prop} {cw : Cond} {ad : Nat → Nat} {cy : Nat → ClassId} {ee : EE} {st : StT} {own : String}
theorem grX1_11_4 (F : CallFix p m c cc nL s args (cw :: Gw) RX1) (K : va_K D vwCl (tyL cy) s) (Z : ZG D (wC ad cy st) A s H locs) (hd : decode cc pc = .ok (.getfield 11, 3)) (kk : W p l e R s m args below meth c H locs 0 0 Q (F0 m (pc + 3) ls (.ref (ad 8) :: rest))) : W p l e R s m args below meth c H locs 0 0 Q (F0 m pc ls (.ref (ad 4) :: rest)) :=
  va_get (D := D) (ci := 1) (C := RX1) (T := TX1) (N := 9) F.1 F.2.1 F.2.2.2.2 (fun w h => List.mem_cons_of_mem _ (inG_X1 w h)) F.2.2.2.1 K Z.1 4 rfl rfl 4 (by decide) (F.2.2.2.2 _ (List.mem_cons_of_mem _ wd17)) (fun _ h => h) rfl hd kk
theorem al8 {i : Int32} (F : CallFix p m c cc nL s args (cw :: Gw) own) (K : va_K D vwCl (tyL cy) s) (Z : ZG D (wC ad cy st) A s H locs) (hi : inB i 1024 = true) (hd : decode cc pc = .ok (.iaload, 1)) (kk : W p l e R s m args below meth c H locs 0 0 Q (F0 m (pc + 1) ls (.int (st.2.1 5 i.toNatClampNeg) :: rest))) : W p l e R s m args below meth c H locs 0 0 Q (F0 m pc ls (.int i :: .ref (ad 8) :: rest)) :=
  va_iald F.1 F.2.1 K Z.1 8 1 rfl rfl (inB_vp hi) hd kk
theorem grX1_32_4 (F : CallFix p m c cc nL s args (cw :: Gw) RX1) (K : va_K D vwCl (tyL cy) s) (Z : ZG D (wC ad cy st) A s H locs) (hd : decode cc pc = .ok (.getfield 32, 3)) (kk : W p l e R s m args below meth c H locs 0 0 Q (F0 m (pc + 3) ls (.ref (ad 6) :: rest))) : W p l e R s m args below meth c H locs 0 0 Q (F0 m pc ls (.ref (ad 4) :: rest)) :=
  va_get (D := D) (ci := 1) (C := RX1) (T := TX1) (N := 9) F.1 F.2.1 F.2.2.2.2 (fun w h => List.mem_cons_of_mem _ (inG_X1 w h)) F.2.2.2.1 K Z.1 4 rfl rfl 2 (by decide) (F.2.2.2.2 _ (List.mem_cons_of_mem _ wd18)) (fun _ h => h) rfl hd kk
theorem al6 {i : Int32} (F : CallFix p m c cc nL s args (cw :: Gw) own) (K : va_K D vwCl (tyL cy) s) (Z : ZG D (wC ad cy st) A s H locs) (hi : inB i 2000 = true) (hd : decode cc pc = .ok (.iaload, 1)) (kk : W p l e R s m args below meth c H locs 0 0 Q (F0 m (pc + 1) ls (.int (st.2.1 3 i.toNatClampNeg) :: rest))) : W p l e R s m args below meth c H locs 0 0 Q (F0 m pc ls (.int i :: .ref (ad 6) :: rest)) :=
  va_iald F.1 F.2.1 K Z.1 6 1 rfl rfl (inB_vp hi) hd kk
theorem grX1_35_4 (F : CallFix p m c cc nL s args (cw :: Gw) RX1) (K : va_K D vwCl (tyL cy) s) (Z : ZG D (wC ad cy st) A s H locs) (hd : decode cc pc = .ok (.getfield 35, 3)) (kk : W p l e R s m args below meth c H locs 0 0 Q (F0 m (pc + 3) ls (.ref (ad 7) :: rest))) : W p l e R s m args below meth c H locs 0 0 Q (F0 m pc ls (.ref (ad 4) :: rest)) :=
  va_get (D := D) (ci := 1) (C := RX1) (T := TX1) (N := 9) F.1 F.2.1 F.2.2.2.2 (fun w h => List.mem_cons_of_mem _ (inG_X1 w h)) F.2.2.2.1 K Z.1 4 rfl rfl 3 (by decide) (F.2.2.2.2 _ (List.mem_cons_of_mem _ wd19)) (fun _ h => h) rfl hd kk
theorem al7 {i : Int32} (F : CallFix p m c cc nL s args (cw :: Gw) own) (K : va_K D vwCl (tyL cy) s) (Z : ZG D (wC ad cy st) A s H locs) (hi : inB i 2000 = true) (hd : decode cc pc = .ok (.iaload, 1)) (kk : W p l e R s m args below meth c H locs 0 0 Q (F0 m (pc + 1) ls (.int (st.2.1 4 i.toNatClampNeg) :: rest))) : W p l e R s m args below meth c H locs 0 0 Q (F0 m pc ls (.int i :: .ref (ad 7) :: rest)) :=
  va_iald F.1 F.2.1 K Z.1 7 1 rfl rfl (inB_vp hi) hd kk
theorem grX1_38_4 (F : CallFix p m c cc nL s args (cw :: Gw) RX1) (K : va_K D vwCl (tyL cy) s) (Z : ZG D (wC ad cy st) A s H locs) (hd : decode cc pc = .ok (.getfield 38, 3)) (kk : W p l e R s m args below meth c H locs 0 0 Q (F0 m (pc + 3) ls (.ref (ad 9) :: rest))) : W p l e R s m args below meth c H locs 0 0 Q (F0 m pc ls (.ref (ad 4) :: rest)) :=
  va_get (D := D) (ci := 1) (C := RX1) (T := TX1) (N := 9) F.1 F.2.1 F.2.2.2.2 (fun w h => List.mem_cons_of_mem _ (inG_X1 w h)) F.2.2.2.1 K Z.1 4 rfl rfl 5 (by decide) (F.2.2.2.2 _ (List.mem_cons_of_mem _ wd20)) (fun _ h => h) rfl hd kk
theorem al9 {i : Int32} (F : CallFix p m c cc nL s args (cw :: Gw) own) (K : va_K D vwCl (tyL cy) s) (Z : ZG D (wC ad cy st) A s H locs) (hi : inB i 2000 = true) (hd : decode cc pc = .ok (.iaload, 1)) (kk : W p l e R s m args below meth c H locs 0 0 Q (F0 m (pc + 1) ls (.int (st.2.1 6 i.toNatClampNeg) :: rest))) : W p l e R s m args below meth c H locs 0 0 Q (F0 m pc ls (.int i :: .ref (ad 9) :: rest)) :=
  va_iald F.1 F.2.1 K Z.1 9 1 rfl rfl (inB_vp hi) hd kk
end
set_option maxRecDepth 100000 in
set_option maxHeartbeats 4000000 in
theorem c_X1_chainOf {l : Launch} {D : va_G} {ad : Nat → Nat} {cy : Nat → ClassId} {ee : EE} {n : Nat} {st : StT} {x0 : Int32} {x1 : Int32} {x2 : Int32} {res : (Int32 × StT)} (hf : f_X1_chainOf n st x0 x1 x2 = some res) : CT l yX1_chainOf cX1_chainOf 3 (some .int) 0 0 D cy ee (wC ad cy st) (wC ad cy res.2) [.int x0, .int x1, .int x2] (some (.int res.1)) := by
  refine CT.of (by decide +kernel) (Nat.le_of_ble_eq_true rfl) ?_
  intro p e s m args below meth c A F hr hk K E hA Z ls hl
  have hl : lv_has ls 3 [(0, .int x0), (1, .int x1), (2, .int x2)] := hl
  have hx := F.1
  have hb := F.2.1
  unfold f_X1_chainOf at hf
  refine lv_iload_n hx hb dX1_chainOf_0 rfl (lv_at hl 0 rfl) ?_
  refine lv_sipush (v := 331) hx hb dX1_chainOf_1 (by decide) ?_
  refine lv_imul hx hb dX1_chainOf_4 ?_
  refine lv_iload_n hx hb dX1_chainOf_5 rfl (lv_at hl 1 rfl) ?_
  refine lv_sipush (v := 613) hx hb dX1_chainOf_6 (by decide) ?_
  refine lv_imul hx hb dX1_chainOf_9 ?_
  refine lv_iadd hx hb dX1_chainOf_10 ?_
  refine lv_iload_n hx hb dX1_chainOf_11 rfl (lv_at hl 2 rfl) ?_
  refine lv_bipush (v := 37) hx hb dX1_chainOf_12 (by decide) ?_
  refine lv_imul hx hb dX1_chainOf_14 ?_
  refine lv_iadd hx hb dX1_chainOf_15 ?_
  refine lv_sipush (v := 1023) hx hb dX1_chainOf_16 (by decide) ?_
  refine lv_iand hx hb dX1_chainOf_19 ?_
  cases hf
  exact ret_i F hr hk Z dX1_chainOf_20
def f_X1_find_F0_72 (n : Nat) (k18 : StT → Int32 → Int32 → Int32 → Int32 → Int32 → Option (Int32 × StT)) (st : StT) (x1 : Int32) (x2 : Int32) (x3 : Int32) (x4 : Int32) (x5 : Int32) : Option (Int32 × StT) := if inB x4 2000 = true then (k18 st x1 x2 x3 ((st.2.1 6 (x4).toNatClampNeg) - (1 : Int32)) (x5 + (1 : Int32))) else none
def f_X1_find_F0_18 (n : Nat) : Nat → StT → Int32 → Int32 → Int32 → Int32 → Int32 → Option (Int32 × StT)
  | 0, _, _, _, _, _, _ => none
  | k + 1, st, x1, x2, x3, x4, x5 => if (st.1 6) ≤ x5 then (some ((-1 : Int32), st)) else ((f_X1_has_F0 n st x4).bind fun q30 => (if q30.1 = 0 then (some ((-1 : Int32), q30.2)) else (if inB x4 2000 = true then (if (q30.2.2.1 2 (x4).toNatClampNeg) = x1 then (if inB x4 2000 = true then (if (q30.2.2.1 3 (x4).toNatClampNeg) = x2 then (if inB x4 2000 = true then (if (q30.2.2.1 4 (x4).toNatClampNeg) = x3 then (some (x4, q30.2)) else (f_X1_find_F0_72 n (f_X1_find_F0_18 n k) q30.2 x1 x2 x3 x4 x5)) else none) else (f_X1_find_F0_72 n (f_X1_find_F0_18 n k) q30.2 x1 x2 x3 x4 x5)) else none) else (f_X1_find_F0_72 n (f_X1_find_F0_18 n k) q30.2 x1 x2 x3 x4 x5)) else none)))
def f_X1_find_F0 (n : Nat) (st : StT) (x1 : Int32) (x2 : Int32) (x3 : Int32) : Option (Int32 × StT) := (f_X1_chainOf n st x1 x2 x3).bind fun q7 => (if inB q7.1 1024 = true then (f_X1_find_F0_18 n n q7.2 x1 x2 x3 ((q7.2.2.1 5 (q7.1).toNatClampNeg) - (1 : Int32)) (0 : Int32)) else none)
theorem wd21 : Cond.methodLink RX1 55 yX1_chainOf ∈ Gw := gT1 (List.mem_of_getElem? (i := 76) rfl) rfl
theorem wd22 : Cond.code yX1_chainOf prog_3_method_12_code 3 (some .int) ∈ Gw := gT1 (List.mem_of_getElem? (i := 78) rfl) rfl
theorem wd23 : Cond.static yX1_chainOf ∈ Gw := gT1 (List.mem_of_getElem? (i := 77) rfl) rfl
section
variable {p : Program} {l : Launch} {e : Env} {R : Room} {s : State} {m : MethodId} {args : Array Value} {below : List Frame} {meth : Method} {c : Code} {H : Heap} {locs : List Loc} {Q : State → Prop}
variable {cc : ByteArray} {nL pc : Nat} {ls : Array Slot} {rest : List Value} {D : va_G} {A : Nat → Prop} {cw : Cond} {ad : Nat → Nat} {cy : Nat → ClassId} {ee : EE} {st : StT} {own : String}
theorem krX1_55_X1_chainOf {n : Nat} {a0 : Int32} {a1 : Int32} {a2 : Int32} {q : (Int32 × StT)} (F : CallFix p m c cc nL s args (cw :: Gw) RX1) (K : va_K D vwCl (tyL cy) s) (E : EV ee A s s.heap) (hA : ∀ q, s.heap.size ≤ q → A q) (Z : ZG D (wC ad cy st) A s H locs) (hf : f_X1_chainOf n st a0 a1 a2 = some q) (hR : 1 ≤ R.frames ∧ 22 ≤ R.locals) (hl : ls.size = nL) (hst : (rest.map fun v => v.category).sum ≤ 8) (hd : decode cc pc = .ok (.invokestatic 55, 3)) (kk : ∀ (H1 : Heap) (locs1 : List Loc), ZG D (wC ad cy q.2) A s H1 locs1 → W p l e R s m args below meth c H1 locs1 0 0 Q (F0 m (pc + 3) ls (.int q.1 :: rest))) : W p l e R s m args below meth c H locs 0 0 Q (F0 m pc ls (.int a2 :: .int a1 :: .int a0 :: rest)) :=
  call_S (n := 3) (As := [.int a0, .int a1, .int a2]) (rv := some (.int q.1)) F K E hA Z (c_X1_chainOf (l := l) (D := D) (ad := ad) (cy := cy) (ee := ee) hf) ⟨wd22, wd21, wd23, wd16⟩ (by decide +kernel) hR rfl hl hst hd kk
end
set_option maxRecDepth 100000 in
set_option maxHeartbeats 4000000 in
theorem b_X1_find_F0_72 {p : Program} {l : Launch} {e : Env} {s : State} {m : MethodId} {args : Array Value} {below : List Frame} {meth : Method} {c : Code} {D : va_G} {A : Nat → Prop} {ad : Nat → Nat} {cy : Nat → ClassId} {ee : EE} {n : Nat} {res : (Int32 × StT)} (F : CallFix p m c cX1_find 6 s args (Cond.code yX1_find cX1_find 6 (some .int) :: Gw) yX1_find.cls) (hr : meth.sig.returnType = (some .int)) (hk : meth.locks = false) (K : va_K D vwCl (tyL cy) s) (E : EV ee A s s.heap) (hA : ∀ q, s.heap.size ≤ q → A q) {k18 : StT → Int32 → Int32 → Int32 → Int32 → Int32 → Option (Int32 × StT)} (hk18 : ∀ (st : StT) (x1 : Int32) (x2 : Int32) (x3 : Int32) (x4 : Int32) (x5 : Int32), k18 st x1 x2 x3 x4 x5 = some res → ∀ (H : Heap) (locs : List Loc) (ls : Array Slot), ZG D (wC ad cy st) A s H locs → lv_has ls 6 [(0, .ref (ad 4)), (1, .int x1), (2, .int x2), (3, .int x3), (4, .int x4), (5, .int x5)] → W p l e { frames := 1, cells := 0, slots := 0, locals := 22 } s m args below meth c H locs 0 0 (MQ below (QC D (some (.int res.1)) (wC ad cy res.2) A) args s 0 0 A) (F0 m 18 ls [])) : ∀ (st : StT) (x1 : Int32) (x2 : Int32) (x3 : Int32) (x4 : Int32) (x5 : Int32), f_X1_find_F0_72 n k18 st x1 x2 x3 x4 x5 = some res → ∀ (H : Heap) (locs : List Loc) (ls : Array Slot), ZG D (wC ad cy st) A s H locs → lv_has ls 6 [(0, .ref (ad 4)), (1, .int x1), (2, .int x2), (3, .int x3), (4, .int x4), (5, .int x5)] → W p l e { frames := 1, cells := 0, slots := 0, locals := 22 } s m args below meth c H locs 0 0 (MQ below (QC D (some (.int res.1)) (wC ad cy res.2) A) args s 0 0 A) (F0 m 72 ls []) := by
  have hx := F.1
  have hb := F.2.1
  intro st x1 x2 x3 x4 x5 hf H locs ls Z hl
  unfold f_X1_find_F0_72 at hf
  refine lv_aload_n hx hb dX1_find_72 rfl (lv_at hl 0 rfl) ?_
  refine grX1_38_4 F K Z dX1_find_73 ?_
  refine lv_iload hx hb dX1_find_76 (lv_at hl 4 rfl) ?_
  obtain ⟨i78, hf⟩ := if_some hf
  refine al9 F K Z i78 dX1_find_78 ?_
  refine lv_iconst (v := 1) hx hb dX1_find_79 (by decide) ?_
  refine lv_isub hx hb dX1_find_80 ?_
  refine lv_istore (lv' := [(4, .int ((st.2.1 6 (x4).toNatClampNeg) - (1 : Int32))), (0, .ref (ad 4)), (1, .int x1), (2, .int x2), (3, .int x3), (5, .int x5)]) hx hb dX1_find_81 hl (by decide) rfl (fun ls hl => ?_)
  refine lv_iinc (v := (x5 + (1 : Int32))) (lv' := [(5, .int (x5 + (1 : Int32))), (4, .int ((st.2.1 6 (x4).toNatClampNeg) - (1 : Int32))), (0, .ref (ad 4)), (1, .int x1), (2, .int x2), (3, .int x3)]) hx hb dX1_find_83 hl (k := 5) rfl (congrArg (fun z => x5 + z) (by decide)) (by decide) rfl (fun ls hl => ?_)
  refine lv_goto (tgt := 18) hx hb dX1_find_86 (by decide) ?_
  exact hk18 _ _ _ _ _ _ hf _ _ _ Z (lv_sub hl [2, 3, 4, 5, 1, 0] rfl)
set_option maxRecDepth 100000 in
set_option maxHeartbeats 4000000 in
theorem b_X1_find_F0_18 {p : Program} {l : Launch} {e : Env} {s : State} {m : MethodId} {args : Array Value} {below : List Frame} {meth : Method} {c : Code} {D : va_G} {A : Nat → Prop} {ad : Nat → Nat} {cy : Nat → ClassId} {ee : EE} {n : Nat} {res : (Int32 × StT)} (F : CallFix p m c cX1_find 6 s args (Cond.code yX1_find cX1_find 6 (some .int) :: Gw) yX1_find.cls) (hr : meth.sig.returnType = (some .int)) (hk : meth.locks = false) (K : va_K D vwCl (tyL cy) s) (E : EV ee A s s.heap) (hA : ∀ q, s.heap.size ≤ q → A q) : ∀ (k : Nat) (st : StT) (x1 : Int32) (x2 : Int32) (x3 : Int32) (x4 : Int32) (x5 : Int32), f_X1_find_F0_18 n k st x1 x2 x3 x4 x5 = some res → ∀ (H : Heap) (locs : List Loc) (ls : Array Slot), ZG D (wC ad cy st) A s H locs → lv_has ls 6 [(0, .ref (ad 4)), (1, .int x1), (2, .int x2), (3, .int x3), (4, .int x4), (5, .int x5)] → W p l e { frames := 1, cells := 0, slots := 0, locals := 22 } s m args below meth c H locs 0 0 (MQ below (QC D (some (.int res.1)) (wC ad cy res.2) A) args s 0 0 A) (F0 m 18 ls []) := by
  have hx := F.1
  have hb := F.2.1
  intro k
  induction k with
  | zero =>
    intro st x1 x2 x3 x4 x5 hf
    exact absurd hf (by simp [f_X1_find_F0_18])
  | succ k ih =>
    intro st x1 x2 x3 x4 x5 hf H locs ls Z hl
    rw [f_X1_find_F0_18] at hf
    refine lv_iload hx hb dX1_find_18 (lv_at hl 5 rfl) ?_
    refine lv_aload_n hx hb dX1_find_20 rfl (lv_at hl 0 rfl) ?_
    refine grX1_45_4 F K Z dX1_find_21 ?_
    refine lv_icmp_ge (tgt := 89) hx hb dX1_find_24 (by decide) (fun c24 => ?_) (fun c24 => ?_)
    · have hf := if_t c24 hf
      refine lv_iconst (v := -1) hx hb dX1_find_89 (by decide) ?_
      cases hf
      exact ret_i F hr hk Z dX1_find_90
    have hf := if_f c24 hf
    refine lv_aload_n hx hb dX1_find_27 rfl (lv_at hl 0 rfl) ?_
    refine lv_iload hx hb dX1_find_28 (lv_at hl 4 rfl) ?_
    obtain ⟨q30, h30, hf⟩ := bind_some hf
    refine krX1_51_X1_has_F0 F K E hA Z h30 ⟨Nat.le_of_ble_eq_true rfl, Nat.le_of_ble_eq_true rfl⟩ hl.1 (Nat.le_of_ble_eq_true rfl) dX1_find_30 (fun H locs Z => ?_)
    refine lv_if_eq (tgt := 89) hx hb dX1_find_33 (by decide) (fun c33 => ?_) (fun c33 => ?_)
    · have hf := if_t c33 hf
      refine lv_iconst (v := -1) hx hb dX1_find_89 (by decide) ?_
      cases hf
      exact ret_i F hr hk Z dX1_find_90
    have hf := if_f c33 hf
    refine lv_aload_n hx hb dX1_find_36 rfl (lv_at hl 0 rfl) ?_
    refine grX1_29_4 F K Z dX1_find_37 ?_
    refine lv_iload hx hb dX1_find_40 (lv_at hl 4 rfl) ?_
    obtain ⟨i42, hf⟩ := if_some hf
    refine al5 F K Z i42 dX1_find_42 ?_
    refine lv_iload_n hx hb dX1_find_43 rfl (lv_at hl 1 rfl) ?_
    refine lv_icmp_ne (tgt := 72) hx hb dX1_find_44 (by decide) (fun c44 => ?_) (fun c44 => ?_)
    · have hf := if_f c44 hf
      exact b_X1_find_F0_72 F hr hk K E hA ih _ _ _ _ _ _ hf _ _ _ Z hl
    have hf := if_t c44 hf
    refine lv_aload_n hx hb dX1_find_47 rfl (lv_at hl 0 rfl) ?_
    refine grX1_32_4 F K Z dX1_find_48 ?_
    refine lv_iload hx hb dX1_find_51 (lv_at hl 4 rfl) ?_
    obtain ⟨i53, hf⟩ := if_some hf
    refine al6 F K Z i53 dX1_find_53 ?_
    refine lv_iload_n hx hb dX1_find_54 rfl (lv_at hl 2 rfl) ?_
    refine lv_icmp_ne (tgt := 72) hx hb dX1_find_55 (by decide) (fun c55 => ?_) (fun c55 => ?_)
    · have hf := if_f c55 hf
      exact b_X1_find_F0_72 F hr hk K E hA ih _ _ _ _ _ _ hf _ _ _ Z hl
    have hf := if_t c55 hf
    refine lv_aload_n hx hb dX1_find_58 rfl (lv_at hl 0 rfl) ?_
    refine grX1_35_4 F K Z dX1_find_59 ?_
    refine lv_iload hx hb dX1_find_62 (lv_at hl 4 rfl) ?_
    obtain ⟨i64, hf⟩ := if_some hf
    refine al7 F K Z i64 dX1_find_64 ?_
    refine lv_iload_n hx hb dX1_find_65 rfl (lv_at hl 3 rfl) ?_
    refine lv_icmp_ne (tgt := 72) hx hb dX1_find_66 (by decide) (fun c66 => ?_) (fun c66 => ?_)
    · have hf := if_f c66 hf
      exact b_X1_find_F0_72 F hr hk K E hA ih _ _ _ _ _ _ hf _ _ _ Z hl
    have hf := if_t c66 hf
    refine lv_iload hx hb dX1_find_69 (lv_at hl 4 rfl) ?_
    cases hf
    exact ret_i F hr hk Z dX1_find_71
set_option maxRecDepth 100000 in
set_option maxHeartbeats 4000000 in
theorem c_X1_find_F0 {l : Launch} {D : va_G} {ad : Nat → Nat} {cy : Nat → ClassId} {ee : EE} {n : Nat} {st : StT} {x1 : Int32} {x2 : Int32} {x3 : Int32} {res : (Int32 × StT)} (hf : f_X1_find_F0 n st x1 x2 x3 = some res) : CT l yX1_find cX1_find 6 (some .int) 1 22 D cy ee (wC ad cy st) (wC ad cy res.2) [.ref (ad 4), .int x1, .int x2, .int x3] (some (.int res.1)) := by
  refine CT.of (by decide +kernel) (Nat.le_of_ble_eq_true rfl) ?_
  intro p e s m args below meth c A F hr hk K E hA Z ls hl
  have hl : lv_has ls 6 [(0, .ref (ad 4)), (1, .int x1), (2, .int x2), (3, .int x3)] := hl
  have hx := F.1
  have hb := F.2.1
  unfold f_X1_find_F0 at hf
  refine lv_aload_n hx hb dX1_find_0 rfl (lv_at hl 0 rfl) ?_
  refine grX1_11_4 F K Z dX1_find_1 ?_
  refine lv_iload_n hx hb dX1_find_4 rfl (lv_at hl 1 rfl) ?_
  refine lv_iload_n hx hb dX1_find_5 rfl (lv_at hl 2 rfl) ?_
  refine lv_iload_n hx hb dX1_find_6 rfl (lv_at hl 3 rfl) ?_
  obtain ⟨q7, h7, hf⟩ := bind_some hf
  refine krX1_55_X1_chainOf F K E hA Z h7 ⟨Nat.le_of_ble_eq_true rfl, Nat.le_of_ble_eq_true rfl⟩ hl.1 (Nat.le_of_ble_eq_true rfl) dX1_find_7 (fun H locs Z => ?_)
  obtain ⟨i10, hf⟩ := if_some hf
  refine al8 F K Z i10 dX1_find_10 ?_
  refine lv_iconst (v := 1) hx hb dX1_find_11 (by decide) ?_
  refine lv_isub hx hb dX1_find_12 ?_
  refine lv_istore (lv' := [(4, .int ((q7.2.2.1 5 (q7.1).toNatClampNeg) - (1 : Int32))), (0, .ref (ad 4)), (1, .int x1), (2, .int x2), (3, .int x3)]) hx hb dX1_find_13 hl (by decide) rfl (fun ls hl => ?_)
  refine lv_iconst (v := 0) hx hb dX1_find_15 (by decide) ?_
  refine lv_istore (lv' := [(5, .int (0 : Int32)), (4, .int ((q7.2.2.1 5 (q7.1).toNatClampNeg) - (1 : Int32))), (0, .ref (ad 4)), (1, .int x1), (2, .int x2), (3, .int x3)]) hx hb dX1_find_16 hl (by decide) rfl (fun ls hl => ?_)
  exact b_X1_find_F0_18 F hr hk K E hA _ _ _ _ _ _ _ hf _ _ _ Z (lv_sub hl [2, 3, 4, 5, 1, 0] rfl)
