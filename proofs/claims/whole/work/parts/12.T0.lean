def f_X7_partsOf (n : Nat) (st : StT) (x0 : Int32) : Option (Int32 × StT) := if x0 = 65 then (some ((2 : Int32), st)) else (if x0 = 67 then (some ((3 : Int32), st)) else (if x0 = 70 then (some ((1 : Int32), st)) else (if x0 = 73 then (some ((1 : Int32), st)) else (if x0 = 74 then (some ((1 : Int32), st)) else (if x0 = 76 then (some ((1 : Int32), st)) else (if x0 = 80 then (some ((2 : Int32), st)) else (if x0 = 83 then (some ((1 : Int32), st)) else (if x0 = 88 then (some ((1 : Int32), st)) else (some ((0 : Int32), st))))))))))
set_option maxRecDepth 100000 in
set_option maxHeartbeats 4000000 in
theorem c_X7_partsOf {l : Launch} {D : va_G} {ad : Nat → Nat} {cy : Nat → ClassId} {ee : EE} {n : Nat} {st : StT} {x0 : Int32} {res : (Int32 × StT)} (hf : f_X7_partsOf n st x0 = some res) : CT l yX7_partsOf cX7_partsOf 1 (some .int) 0 0 D cy ee (wC ad cy st) (wC ad cy res.2) [.int x0] (some (.int res.1)) := by
  refine CT.of (by decide +kernel) (Nat.le_of_ble_eq_true rfl) ?_
  intro p e s m args below meth c A F hr hk K E hA Z ls hl
  have hl : lv_has ls 1 [(0, .int x0)] := hl
  have hx := F.1
  have hb := F.2.1
  unfold f_X7_partsOf at hf
  refine lv_iload_n hx hb dX7_partsOf_0 rfl (lv_at hl 0 rfl) ?_
  by_cases c1_65 : x0 = 65
  · have hf := if_t c1_65 hf
    refine lv_tableIn (tgt := 114) hx hb dX7_partsOf_1 (by rw [c1_65] <;> decide) (by rw [c1_65] <;> decide) (by rw [c1_65] <;> rfl) (by decide) ?_
    refine lv_iconst (v := 2) hx hb dX7_partsOf_114 (by decide) ?_
    have hf := Option.some.inj hf
    subst hf
    exact ret_i F hr hk Z dX7_partsOf_115
  have hf := if_f c1_65 hf
  by_cases c1_67 : x0 = 67
  · have hf := if_t c1_67 hf
    refine lv_tableIn (tgt := 112) hx hb dX7_partsOf_1 (by rw [c1_67] <;> decide) (by rw [c1_67] <;> decide) (by rw [c1_67] <;> rfl) (by decide) ?_
    refine lv_iconst (v := 3) hx hb dX7_partsOf_112 (by decide) ?_
    have hf := Option.some.inj hf
    subst hf
    exact ret_i F hr hk Z dX7_partsOf_113
  have hf := if_f c1_67 hf
  by_cases c1_70 : x0 = 70
  · have hf := if_t c1_70 hf
    refine lv_tableIn (tgt := 116) hx hb dX7_partsOf_1 (by rw [c1_70] <;> decide) (by rw [c1_70] <;> decide) (by rw [c1_70] <;> rfl) (by decide) ?_
    refine lv_iconst (v := 1) hx hb dX7_partsOf_116 (by decide) ?_
    have hf := Option.some.inj hf
    subst hf
    exact ret_i F hr hk Z dX7_partsOf_117
  have hf := if_f c1_70 hf
  by_cases c1_73 : x0 = 73
  · have hf := if_t c1_73 hf
    refine lv_tableIn (tgt := 116) hx hb dX7_partsOf_1 (by rw [c1_73] <;> decide) (by rw [c1_73] <;> decide) (by rw [c1_73] <;> rfl) (by decide) ?_
    refine lv_iconst (v := 1) hx hb dX7_partsOf_116 (by decide) ?_
    have hf := Option.some.inj hf
    subst hf
    exact ret_i F hr hk Z dX7_partsOf_117
  have hf := if_f c1_73 hf
  by_cases c1_74 : x0 = 74
  · have hf := if_t c1_74 hf
    refine lv_tableIn (tgt := 116) hx hb dX7_partsOf_1 (by rw [c1_74] <;> decide) (by rw [c1_74] <;> decide) (by rw [c1_74] <;> rfl) (by decide) ?_
    refine lv_iconst (v := 1) hx hb dX7_partsOf_116 (by decide) ?_
    have hf := Option.some.inj hf
    subst hf
    exact ret_i F hr hk Z dX7_partsOf_117
  have hf := if_f c1_74 hf
  by_cases c1_76 : x0 = 76
  · have hf := if_t c1_76 hf
    refine lv_tableIn (tgt := 116) hx hb dX7_partsOf_1 (by rw [c1_76] <;> decide) (by rw [c1_76] <;> decide) (by rw [c1_76] <;> rfl) (by decide) ?_
    refine lv_iconst (v := 1) hx hb dX7_partsOf_116 (by decide) ?_
    have hf := Option.some.inj hf
    subst hf
    exact ret_i F hr hk Z dX7_partsOf_117
  have hf := if_f c1_76 hf
  by_cases c1_80 : x0 = 80
  · have hf := if_t c1_80 hf
    refine lv_tableIn (tgt := 114) hx hb dX7_partsOf_1 (by rw [c1_80] <;> decide) (by rw [c1_80] <;> decide) (by rw [c1_80] <;> rfl) (by decide) ?_
    refine lv_iconst (v := 2) hx hb dX7_partsOf_114 (by decide) ?_
    have hf := Option.some.inj hf
    subst hf
    exact ret_i F hr hk Z dX7_partsOf_115
  have hf := if_f c1_80 hf
  by_cases c1_83 : x0 = 83
  · have hf := if_t c1_83 hf
    refine lv_tableIn (tgt := 116) hx hb dX7_partsOf_1 (by rw [c1_83] <;> decide) (by rw [c1_83] <;> decide) (by rw [c1_83] <;> rfl) (by decide) ?_
    refine lv_iconst (v := 1) hx hb dX7_partsOf_116 (by decide) ?_
    have hf := Option.some.inj hf
    subst hf
    exact ret_i F hr hk Z dX7_partsOf_117
  have hf := if_f c1_83 hf
  by_cases c1_88 : x0 = 88
  · have hf := if_t c1_88 hf
    refine lv_tableIn (tgt := 116) hx hb dX7_partsOf_1 (by rw [c1_88] <;> decide) (by rw [c1_88] <;> decide) (by rw [c1_88] <;> rfl) (by decide) ?_
    refine lv_iconst (v := 1) hx hb dX7_partsOf_116 (by decide) ?_
    have hf := Option.some.inj hf
    subst hf
    exact ret_i F hr hk Z dX7_partsOf_117
  have hf := if_f c1_88 hf
  refine sw_tab (tgt := 118) hx hb dX7_partsOf_1 (sw_any (fun j h1 h2 hj => ?_)) (by decide) ?_
  · rcases (show j = 65 ∨ j = 66 ∨ j = 67 ∨ j = 68 ∨ j = 69 ∨ j = 70 ∨ j = 71 ∨ j = 72 ∨ j = 73 ∨ j = 74 ∨ j = 75 ∨ j = 76 ∨ j = 77 ∨ j = 78 ∨ j = 79 ∨ j = 80 ∨ j = 81 ∨ j = 82 ∨ j = 83 ∨ j = 84 ∨ j = 85 ∨ j = 86 ∨ j = 87 ∨ j = 88 by omega) with rfl | rfl | rfl | rfl | rfl | rfl | rfl | rfl | rfl | rfl | rfl | rfl | rfl | rfl | rfl | rfl | rfl | rfl | rfl | rfl | rfl | rfl | rfl | rfl
    · exact absurd hj (lv_neT c1_65 (by decide))
    · rfl
    · exact absurd hj (lv_neT c1_67 (by decide))
    · rfl
    · rfl
    · exact absurd hj (lv_neT c1_70 (by decide))
    · rfl
    · rfl
    · exact absurd hj (lv_neT c1_73 (by decide))
    · exact absurd hj (lv_neT c1_74 (by decide))
    · rfl
    · exact absurd hj (lv_neT c1_76 (by decide))
    · rfl
    · rfl
    · rfl
    · exact absurd hj (lv_neT c1_80 (by decide))
    · rfl
    · rfl
    · exact absurd hj (lv_neT c1_83 (by decide))
    · rfl
    · rfl
    · rfl
    · rfl
    · exact absurd hj (lv_neT c1_88 (by decide))
  refine lv_iconst (v := 0) hx hb dX7_partsOf_118 (by decide) ?_
  have hf := Option.some.inj hf
  subst hf
  exact ret_i F hr hk Z dX7_partsOf_119
def f_X7_binds (n : Nat) (st : StT) (x0 : Int32) (x1 : Int32) : Option (Int32 × StT) := if x0 = (76 : Int32) then (some ((1 : Int32), st)) else (if x0 = (67 : Int32) then (if x1 ≤ 0 then (some ((0 : Int32), st)) else (some ((1 : Int32), st))) else (some ((0 : Int32), st)))
set_option maxRecDepth 100000 in
set_option maxHeartbeats 4000000 in
theorem c_X7_binds {l : Launch} {D : va_G} {ad : Nat → Nat} {cy : Nat → ClassId} {ee : EE} {n : Nat} {st : StT} {x0 : Int32} {x1 : Int32} {res : (Int32 × StT)} (hf : f_X7_binds n st x0 x1 = some res) : CT l yX7_binds cX7_binds 2 (some .boolean) 0 0 D cy ee (wC ad cy st) (wC ad cy res.2) [.int x0, .int x1] (some (.int res.1)) := by
  refine CT.of (by decide +kernel) (Nat.le_of_ble_eq_true rfl) ?_
  intro p e s m args below meth c A F hr hk K E hA Z ls hl
  have hl : lv_has ls 2 [(0, .int x0), (1, .int x1)] := hl
  have hx := F.1
  have hb := F.2.1
  unfold f_X7_binds at hf
  refine lv_iload_n hx hb dX7_binds_0 rfl (lv_at hl 0 rfl) ?_
  refine lv_bipush (v := 76) hx hb dX7_binds_1 (by decide) ?_
  refine lv_icmp_eq (tgt := 16) hx hb dX7_binds_3 (by decide) (fun c3 => ?_) (fun c3 => ?_)
  · have hf := if_t c3 hf
    refine lv_iconst (v := 1) hx hb dX7_binds_16 (by decide) ?_
    refine lv_goto (tgt := 21) hx hb dX7_binds_17 (by decide) ?_
    have hf := Option.some.inj hf
    subst hf
    exact ret_z F hr hk Z rfl dX7_binds_21
  have hf := if_f c3 hf
  refine lv_iload_n hx hb dX7_binds_6 rfl (lv_at hl 0 rfl) ?_
  refine lv_bipush (v := 67) hx hb dX7_binds_7 (by decide) ?_
  refine lv_icmp_ne (tgt := 20) hx hb dX7_binds_9 (by decide) (fun c9 => ?_) (fun c9 => ?_)
  · have hf := if_f c9 hf
    refine lv_iconst (v := 0) hx hb dX7_binds_20 (by decide) ?_
    have hf := Option.some.inj hf
    subst hf
    exact ret_z F hr hk Z rfl dX7_binds_21
  have hf := if_t c9 hf
  refine lv_iload_n hx hb dX7_binds_12 rfl (lv_at hl 1 rfl) ?_
  refine lv_if_le (tgt := 20) hx hb dX7_binds_13 (by decide) (fun c13 => ?_) (fun c13 => ?_)
  · have hf := if_t c13 hf
    refine lv_iconst (v := 0) hx hb dX7_binds_20 (by decide) ?_
    have hf := Option.some.inj hf
    subst hf
    exact ret_z F hr hk Z rfl dX7_binds_21
  have hf := if_f c13 hf
  refine lv_iconst (v := 1) hx hb dX7_binds_16 (by decide) ?_
  refine lv_goto (tgt := 21) hx hb dX7_binds_17 (by decide) ?_
  have hf := Option.some.inj hf
  subst hf
  exact ret_z F hr hk Z rfl dX7_binds_21
def f_X7_drop_T0 (n : Nat) (st : StT) : Option StT := some (uF st 8 (0 : Int32))
theorem wd42 : Cond.laysFinal RX7 "WorldProver$Terms" "room" "I" ∈ Gw := gT1 (List.mem_of_getElem? (i := 136) rfl) rfl
theorem wd43 : Cond.laysFinal RX7 "WorldProver$Terms" "kinds" "[I" ∈ Gw := gT1 (List.mem_of_getElem? (i := 138) rfl) rfl
theorem wd44 : Cond.laysFinal RX7 "WorldProver$Terms" "as" "[I" ∈ Gw := gT1 (List.mem_of_getElem? (i := 140) rfl) rfl
theorem wd45 : Cond.laysFinal RX7 "WorldProver$Terms" "bs" "[I" ∈ Gw := gT1 (List.mem_of_getElem? (i := 142) rfl) rfl
theorem wd46 : Cond.laysFinal RX7 "WorldProver$Terms" "cs" "[I" ∈ Gw := gT1 (List.mem_of_getElem? (i := 144) rfl) rfl
theorem wd47 : Cond.laysFinal RX7 "WorldProver$Terms" "bounds" "[I" ∈ Gw := gT1 (List.mem_of_getElem? (i := 146) rfl) rfl
theorem wd48 : Cond.lays RX7 "WorldProver$Terms" "many" "I" ∈ Gw := gT1 (List.mem_of_getElem? (i := 148) rfl) rfl
theorem wd49 : Cond.fieldLink RX7 37 "WorldProver$Terms" "many" "I" ∈ Gw := gT1 (List.mem_of_getElem? (i := 135) rfl) rfl
theorem inG_X7 : ∀ w ∈ u_ws RX7 TX7 7, w ∈ Gw := by
  intro w h
  obtain ⟨k, hk, rfl⟩ := List.mem_map.mp h
  have hk := List.mem_range.mp hk
  by_cases h0 : k = 0
  · subst h0; exact wd42
  by_cases h1 : k = 1
  · subst h1; exact wd43
  by_cases h2 : k = 2
  · subst h2; exact wd44
  by_cases h3 : k = 3
  · subst h3; exact wd45
  by_cases h4 : k = 4
  · subst h4; exact wd46
  by_cases h5 : k = 5
  · subst h5; exact wd47
  by_cases h6 : k = 6
  · subst h6; exact wd48
  omega
section
variable {p : Program} {l : Launch} {e : Env} {R : Room} {s : State} {m : MethodId} {args : Array Value} {below : List Frame} {meth : Method} {c : Code} {H : Heap} {locs : List Loc} {Q : State → Prop}
variable {cc : ByteArray} {nL pc : Nat} {ls : Array Slot} {rest : List Value} {D : va_G} {A : Nat → Prop} {cw : Cond} {ad : Nat → Nat} {cy : Nat → ClassId} {ee : EE} {st : StT} {own : String}
theorem prX7_37_12 {v : Int32} (F : CallFix p m c cc nL s args (cw :: Gw) RX7) (K : va_K D vwCl (tyL cy) s) (Z : ZG D (wC ad cy st) A s H locs) (hd : decode cc pc = .ok (.putfield 37, 3)) (kk : ∀ (H1 : Heap) (locs1 : List Loc), ZG D (wC ad cy (uF st 8 v)) A s H1 locs1 → W p l e R s m args below meth c H1 locs1 0 0 Q (F0 m (pc + 3) ls rest)) : W p l e R s m args below meth c H locs 0 0 Q (F0 m pc ls (.int v :: .ref (ad 12) :: rest)) :=
  va_put (D := D) (ci := 7) (v := .int v) (ty := .int) (C := RX7) (T := TX7) (N := 7) F.1 F.2.1 F.2.2.2.2 (fun w h => List.mem_cons_of_mem _ (inG_X7 w h)) tyX7 tyX7_ok nmX7 F.2.2.2.1 K Z.1 Z.2.1 Z.2.2 12 rfl rfl 6 (by decide) (F.2.2.2.2 _ (List.mem_cons_of_mem _ wd49)) (fun _ h => h) rfl (by decide +kernel) rfl rfl (Nat.le_of_ble_eq_true rfl) hd (fun H1 locs1 hP hD hS => kk H1 locs1 ⟨hP, hD, hS⟩)
end
set_option maxRecDepth 100000 in
set_option maxHeartbeats 4000000 in
theorem c_X7_drop_T0 {l : Launch} {D : va_G} {ad : Nat → Nat} {cy : Nat → ClassId} {ee : EE} {n : Nat} {st : StT} {res : StT} (hf : f_X7_drop_T0 n st = some res) : CT l yX7_drop cX7_drop 1 none 0 0 D cy ee (wC ad cy st) (wC ad cy res) [.ref (ad 12)] (none) := by
  refine CT.of (by decide +kernel) (Nat.le_of_ble_eq_true rfl) ?_
  intro p e s m args below meth c A F hr hk K E hA Z ls hl
  have hl : lv_has ls 1 [(0, .ref (ad 12))] := hl
  have hx := F.1
  have hb := F.2.1
  unfold f_X7_drop_T0 at hf
  refine lv_aload_n hx hb dX7_drop_0 rfl (lv_at hl 0 rfl) ?_
  refine lv_iconst (v := 0) hx hb dX7_drop_1 (by decide) ?_
  refine prX7_37_12 F K Z dX7_drop_2 (fun H locs Z => ?_)
  have hf := Option.some.inj hf
  subst hf
  exact ret_v F hr hk Z dX7_drop_5
def f_X7_add_T0 (n : Nat) (st : StT) (x1 : Int32) (x2 : Int32) (x3 : Int32) (x4 : Int32) (x5 : Int32) : Option (Int32 × StT) := if (st.1 8) < 0 then (some ((-1 : Int32), st)) else (if (st.1 8) < (3000 : Int32) then (if inB (st.1 8) 3000 = true then (if inB (st.1 8) 3000 = true then (if inB (st.1 8) 3000 = true then (if inB (st.1 8) 3000 = true then (if inB (st.1 8) 3000 = true then (some ((st.1 8), (uF (uA (uA (uA (uA (uA st 7 (st.1 8) x1) 8 (st.1 8) x2) 9 (st.1 8) x3) 10 (st.1 8) x4) 11 (st.1 8) x5) 8 (((uA (uA (uA (uA (uA st 7 (st.1 8) x1) 8 (st.1 8) x2) 9 (st.1 8) x3) 10 (st.1 8) x4) 11 (st.1 8) x5).1 8) + (1 : Int32))))) else none) else none) else none) else none) else none) else (some ((-1 : Int32), st)))
theorem wd50 : Cond.fieldLink RX7 15 "WorldProver$Terms" "room" "I" ∈ Gw := gT1 (List.mem_of_getElem? (i := 129) rfl) rfl
theorem wd51 : Cond.fieldLink RX7 21 "WorldProver$Terms" "kinds" "[I" ∈ Gw := gT1 (List.mem_of_getElem? (i := 130) rfl) rfl
theorem wd52 : Cond.fieldLink RX7 25 "WorldProver$Terms" "as" "[I" ∈ Gw := gT1 (List.mem_of_getElem? (i := 131) rfl) rfl
theorem wd53 : Cond.fieldLink RX7 28 "WorldProver$Terms" "bs" "[I" ∈ Gw := gT1 (List.mem_of_getElem? (i := 132) rfl) rfl
theorem wd54 : Cond.fieldLink RX7 31 "WorldProver$Terms" "cs" "[I" ∈ Gw := gT1 (List.mem_of_getElem? (i := 133) rfl) rfl
theorem wd55 : Cond.fieldLink RX7 34 "WorldProver$Terms" "bounds" "[I" ∈ Gw := gT1 (List.mem_of_getElem? (i := 134) rfl) rfl
section
variable {p : Program} {l : Launch} {e : Env} {R : Room} {s : State} {m : MethodId} {args : Array Value} {below : List Frame} {meth : Method} {c : Code} {H : Heap} {locs : List Loc} {Q : State → Prop}
variable {cc : ByteArray} {nL pc : Nat} {ls : Array Slot} {rest : List Value} {D : va_G} {A : Nat → Prop} {cw : Cond} {ad : Nat → Nat} {cy : Nat → ClassId} {ee : EE} {st : StT} {own : String}
theorem grX7_37_12 (F : CallFix p m c cc nL s args (cw :: Gw) RX7) (K : va_K D vwCl (tyL cy) s) (Z : ZG D (wC ad cy st) A s H locs) (hd : decode cc pc = .ok (.getfield 37, 3)) (kk : W p l e R s m args below meth c H locs 0 0 Q (F0 m (pc + 3) ls (.int (st.1 8) :: rest))) : W p l e R s m args below meth c H locs 0 0 Q (F0 m pc ls (.ref (ad 12) :: rest)) :=
  va_get (D := D) (ci := 7) (C := RX7) (T := TX7) (N := 7) F.1 F.2.1 F.2.2.2.2 (fun w h => List.mem_cons_of_mem _ (inG_X7 w h)) F.2.2.2.1 K Z.1 12 rfl rfl 6 (by decide) (F.2.2.2.2 _ (List.mem_cons_of_mem _ wd49)) (fun _ h => h) rfl hd kk
theorem grX7_15_12 (F : CallFix p m c cc nL s args (cw :: Gw) RX7) (K : va_K D vwCl (tyL cy) s) (Z : ZG D (wC ad cy st) A s H locs) (hd : decode cc pc = .ok (.getfield 15, 3)) (kk : W p l e R s m args below meth c H locs 0 0 Q (F0 m (pc + 3) ls (.int 3000 :: rest))) : W p l e R s m args below meth c H locs 0 0 Q (F0 m pc ls (.ref (ad 12) :: rest)) :=
  va_get (D := D) (ci := 7) (C := RX7) (T := TX7) (N := 7) F.1 F.2.1 F.2.2.2.2 (fun w h => List.mem_cons_of_mem _ (inG_X7 w h)) F.2.2.2.1 K Z.1 12 rfl rfl 0 (by decide) (F.2.2.2.2 _ (List.mem_cons_of_mem _ wd50)) (fun _ h => h) rfl hd kk
theorem grX7_21_12 (F : CallFix p m c cc nL s args (cw :: Gw) RX7) (K : va_K D vwCl (tyL cy) s) (Z : ZG D (wC ad cy st) A s H locs) (hd : decode cc pc = .ok (.getfield 21, 3)) (kk : W p l e R s m args below meth c H locs 0 0 Q (F0 m (pc + 3) ls (.ref (ad 13) :: rest))) : W p l e R s m args below meth c H locs 0 0 Q (F0 m pc ls (.ref (ad 12) :: rest)) :=
  va_get (D := D) (ci := 7) (C := RX7) (T := TX7) (N := 7) F.1 F.2.1 F.2.2.2.2 (fun w h => List.mem_cons_of_mem _ (inG_X7 w h)) F.2.2.2.1 K Z.1 12 rfl rfl 1 (by decide) (F.2.2.2.2 _ (List.mem_cons_of_mem _ wd51)) (fun _ h => h) rfl hd kk
theorem as13 {i : Int32} {v : Int32} (F : CallFix p m c cc nL s args (cw :: Gw) own) (K : va_K D vwCl (tyL cy) s) (Z : ZG D (wC ad cy st) A s H locs) (hi : inB i 3000 = true) (hd : decode cc pc = .ok (.iastore, 1)) (kk : ∀ (H1 : Heap) (locs1 : List Loc), ZG D (wC ad cy (uA st 7 i v)) A s H1 locs1 → W p l e R s m args below meth c H1 locs1 0 0 Q (F0 m (pc + 1) ls rest)) : W p l e R s m args below meth c H locs 0 0 Q (F0 m pc ls (.int v :: .int i :: .ref (ad 13) :: rest)) :=
  va_iast F.1 F.2.1 K Z.1 Z.2.1 Z.2.2 13 1 rfl rfl (inB_vp hi) hd (fun H1 locs1 hP hD hS => kk H1 locs1 ⟨hP, hD, hS⟩)
theorem grX7_25_12 (F : CallFix p m c cc nL s args (cw :: Gw) RX7) (K : va_K D vwCl (tyL cy) s) (Z : ZG D (wC ad cy st) A s H locs) (hd : decode cc pc = .ok (.getfield 25, 3)) (kk : W p l e R s m args below meth c H locs 0 0 Q (F0 m (pc + 3) ls (.ref (ad 14) :: rest))) : W p l e R s m args below meth c H locs 0 0 Q (F0 m pc ls (.ref (ad 12) :: rest)) :=
  va_get (D := D) (ci := 7) (C := RX7) (T := TX7) (N := 7) F.1 F.2.1 F.2.2.2.2 (fun w h => List.mem_cons_of_mem _ (inG_X7 w h)) F.2.2.2.1 K Z.1 12 rfl rfl 2 (by decide) (F.2.2.2.2 _ (List.mem_cons_of_mem _ wd52)) (fun _ h => h) rfl hd kk
theorem as14 {i : Int32} {v : Int32} (F : CallFix p m c cc nL s args (cw :: Gw) own) (K : va_K D vwCl (tyL cy) s) (Z : ZG D (wC ad cy st) A s H locs) (hi : inB i 3000 = true) (hd : decode cc pc = .ok (.iastore, 1)) (kk : ∀ (H1 : Heap) (locs1 : List Loc), ZG D (wC ad cy (uA st 8 i v)) A s H1 locs1 → W p l e R s m args below meth c H1 locs1 0 0 Q (F0 m (pc + 1) ls rest)) : W p l e R s m args below meth c H locs 0 0 Q (F0 m pc ls (.int v :: .int i :: .ref (ad 14) :: rest)) :=
  va_iast F.1 F.2.1 K Z.1 Z.2.1 Z.2.2 14 1 rfl rfl (inB_vp hi) hd (fun H1 locs1 hP hD hS => kk H1 locs1 ⟨hP, hD, hS⟩)
theorem grX7_28_12 (F : CallFix p m c cc nL s args (cw :: Gw) RX7) (K : va_K D vwCl (tyL cy) s) (Z : ZG D (wC ad cy st) A s H locs) (hd : decode cc pc = .ok (.getfield 28, 3)) (kk : W p l e R s m args below meth c H locs 0 0 Q (F0 m (pc + 3) ls (.ref (ad 15) :: rest))) : W p l e R s m args below meth c H locs 0 0 Q (F0 m pc ls (.ref (ad 12) :: rest)) :=
  va_get (D := D) (ci := 7) (C := RX7) (T := TX7) (N := 7) F.1 F.2.1 F.2.2.2.2 (fun w h => List.mem_cons_of_mem _ (inG_X7 w h)) F.2.2.2.1 K Z.1 12 rfl rfl 3 (by decide) (F.2.2.2.2 _ (List.mem_cons_of_mem _ wd53)) (fun _ h => h) rfl hd kk
theorem as15 {i : Int32} {v : Int32} (F : CallFix p m c cc nL s args (cw :: Gw) own) (K : va_K D vwCl (tyL cy) s) (Z : ZG D (wC ad cy st) A s H locs) (hi : inB i 3000 = true) (hd : decode cc pc = .ok (.iastore, 1)) (kk : ∀ (H1 : Heap) (locs1 : List Loc), ZG D (wC ad cy (uA st 9 i v)) A s H1 locs1 → W p l e R s m args below meth c H1 locs1 0 0 Q (F0 m (pc + 1) ls rest)) : W p l e R s m args below meth c H locs 0 0 Q (F0 m pc ls (.int v :: .int i :: .ref (ad 15) :: rest)) :=
  va_iast F.1 F.2.1 K Z.1 Z.2.1 Z.2.2 15 1 rfl rfl (inB_vp hi) hd (fun H1 locs1 hP hD hS => kk H1 locs1 ⟨hP, hD, hS⟩)
theorem grX7_31_12 (F : CallFix p m c cc nL s args (cw :: Gw) RX7) (K : va_K D vwCl (tyL cy) s) (Z : ZG D (wC ad cy st) A s H locs) (hd : decode cc pc = .ok (.getfield 31, 3)) (kk : W p l e R s m args below meth c H locs 0 0 Q (F0 m (pc + 3) ls (.ref (ad 16) :: rest))) : W p l e R s m args below meth c H locs 0 0 Q (F0 m pc ls (.ref (ad 12) :: rest)) :=
  va_get (D := D) (ci := 7) (C := RX7) (T := TX7) (N := 7) F.1 F.2.1 F.2.2.2.2 (fun w h => List.mem_cons_of_mem _ (inG_X7 w h)) F.2.2.2.1 K Z.1 12 rfl rfl 4 (by decide) (F.2.2.2.2 _ (List.mem_cons_of_mem _ wd54)) (fun _ h => h) rfl hd kk
theorem as16 {i : Int32} {v : Int32} (F : CallFix p m c cc nL s args (cw :: Gw) own) (K : va_K D vwCl (tyL cy) s) (Z : ZG D (wC ad cy st) A s H locs) (hi : inB i 3000 = true) (hd : decode cc pc = .ok (.iastore, 1)) (kk : ∀ (H1 : Heap) (locs1 : List Loc), ZG D (wC ad cy (uA st 10 i v)) A s H1 locs1 → W p l e R s m args below meth c H1 locs1 0 0 Q (F0 m (pc + 1) ls rest)) : W p l e R s m args below meth c H locs 0 0 Q (F0 m pc ls (.int v :: .int i :: .ref (ad 16) :: rest)) :=
  va_iast F.1 F.2.1 K Z.1 Z.2.1 Z.2.2 16 1 rfl rfl (inB_vp hi) hd (fun H1 locs1 hP hD hS => kk H1 locs1 ⟨hP, hD, hS⟩)
theorem grX7_34_12 (F : CallFix p m c cc nL s args (cw :: Gw) RX7) (K : va_K D vwCl (tyL cy) s) (Z : ZG D (wC ad cy st) A s H locs) (hd : decode cc pc = .ok (.getfield 34, 3)) (kk : W p l e R s m args below meth c H locs 0 0 Q (F0 m (pc + 3) ls (.ref (ad 17) :: rest))) : W p l e R s m args below meth c H locs 0 0 Q (F0 m pc ls (.ref (ad 12) :: rest)) :=
  va_get (D := D) (ci := 7) (C := RX7) (T := TX7) (N := 7) F.1 F.2.1 F.2.2.2.2 (fun w h => List.mem_cons_of_mem _ (inG_X7 w h)) F.2.2.2.1 K Z.1 12 rfl rfl 5 (by decide) (F.2.2.2.2 _ (List.mem_cons_of_mem _ wd55)) (fun _ h => h) rfl hd kk
theorem as17 {i : Int32} {v : Int32} (F : CallFix p m c cc nL s args (cw :: Gw) own) (K : va_K D vwCl (tyL cy) s) (Z : ZG D (wC ad cy st) A s H locs) (hi : inB i 3000 = true) (hd : decode cc pc = .ok (.iastore, 1)) (kk : ∀ (H1 : Heap) (locs1 : List Loc), ZG D (wC ad cy (uA st 11 i v)) A s H1 locs1 → W p l e R s m args below meth c H1 locs1 0 0 Q (F0 m (pc + 1) ls rest)) : W p l e R s m args below meth c H locs 0 0 Q (F0 m pc ls (.int v :: .int i :: .ref (ad 17) :: rest)) :=
  va_iast F.1 F.2.1 K Z.1 Z.2.1 Z.2.2 17 1 rfl rfl (inB_vp hi) hd (fun H1 locs1 hP hD hS => kk H1 locs1 ⟨hP, hD, hS⟩)
end
set_option maxRecDepth 100000 in
set_option maxHeartbeats 4000000 in
theorem c_X7_add_T0 {l : Launch} {D : va_G} {ad : Nat → Nat} {cy : Nat → ClassId} {ee : EE} {n : Nat} {st : StT} {x1 : Int32} {x2 : Int32} {x3 : Int32} {x4 : Int32} {x5 : Int32} {res : (Int32 × StT)} (hf : f_X7_add_T0 n st x1 x2 x3 x4 x5 = some res) : CT l yX7_add cX7_add 7 (some .int) 0 0 D cy ee (wC ad cy st) (wC ad cy res.2) [.ref (ad 12), .int x1, .int x2, .int x3, .int x4, .int x5] (some (.int res.1)) := by
  refine CT.of (by decide +kernel) (Nat.le_of_ble_eq_true rfl) ?_
  intro p e s m args below meth c A F hr hk K E hA Z ls hl
  have hl : lv_has ls 7 [(0, .ref (ad 12)), (1, .int x1), (2, .int x2), (3, .int x3), (4, .int x4), (5, .int x5)] := hl
  have hx := F.1
  have hb := F.2.1
  unfold f_X7_add_T0 at hf
  refine lv_aload_n hx hb dX7_add_0 rfl (lv_at hl 0 rfl) ?_
  refine grX7_37_12 F K Z dX7_add_1 ?_
  refine lv_if_lt (tgt := 18) hx hb dX7_add_4 (by decide) (fun c4 => ?_) (fun c4 => ?_)
  · have hf := if_t c4 hf
    refine lv_iconst (v := -1) hx hb dX7_add_18 (by decide) ?_
    have hf := Option.some.inj hf
    subst hf
    exact ret_i F hr hk Z dX7_add_19
  have hf := if_f c4 hf
  refine lv_aload_n hx hb dX7_add_7 rfl (lv_at hl 0 rfl) ?_
  refine grX7_37_12 F K Z dX7_add_8 ?_
  refine lv_aload_n hx hb dX7_add_11 rfl (lv_at hl 0 rfl) ?_
  refine grX7_15_12 F K Z dX7_add_12 ?_
  refine lv_icmp_lt (tgt := 20) hx hb dX7_add_15 (by decide) (fun c15 => ?_) (fun c15 => ?_)
  · have hf := if_t c15 hf
    refine lv_aload_n hx hb dX7_add_20 rfl (lv_at hl 0 rfl) ?_
    refine grX7_37_12 F K Z dX7_add_21 ?_
    refine lv_istore (lv' := [(6, .int (st.1 8)), (0, .ref (ad 12)), (1, .int x1), (2, .int x2), (3, .int x3), (4, .int x4), (5, .int x5)]) hx hb dX7_add_24 hl (by decide) rfl (fun ls hl => ?_)
    refine lv_aload_n hx hb dX7_add_26 rfl (lv_at hl 1 rfl) ?_
    refine grX7_21_12 F K Z dX7_add_27 ?_
    refine lv_iload hx hb dX7_add_30 (lv_at hl 0 rfl) ?_
    refine lv_iload_n hx hb dX7_add_32 rfl (lv_at hl 2 rfl) ?_
    obtain ⟨i33, hf⟩ := if_some hf
    refine as13 F K Z i33 dX7_add_33 (fun H locs Z => ?_)
    refine lv_aload_n hx hb dX7_add_34 rfl (lv_at hl 1 rfl) ?_
    refine grX7_25_12 F K Z dX7_add_35 ?_
    refine lv_iload hx hb dX7_add_38 (lv_at hl 0 rfl) ?_
    refine lv_iload_n hx hb dX7_add_40 rfl (lv_at hl 3 rfl) ?_
    obtain ⟨i41, hf⟩ := if_some hf
    refine as14 F K Z i41 dX7_add_41 (fun H locs Z => ?_)
    refine lv_aload_n hx hb dX7_add_42 rfl (lv_at hl 1 rfl) ?_
    refine grX7_28_12 F K Z dX7_add_43 ?_
    refine lv_iload hx hb dX7_add_46 (lv_at hl 0 rfl) ?_
    refine lv_iload_n hx hb dX7_add_48 rfl (lv_at hl 4 rfl) ?_
    obtain ⟨i49, hf⟩ := if_some hf
    refine as15 F K Z i49 dX7_add_49 (fun H locs Z => ?_)
    refine lv_aload_n hx hb dX7_add_50 rfl (lv_at hl 1 rfl) ?_
    refine grX7_31_12 F K Z dX7_add_51 ?_
    refine lv_iload hx hb dX7_add_54 (lv_at hl 0 rfl) ?_
    refine lv_iload hx hb dX7_add_56 (lv_at hl 5 rfl) ?_
    obtain ⟨i58, hf⟩ := if_some hf
    refine as16 F K Z i58 dX7_add_58 (fun H locs Z => ?_)
    refine lv_aload_n hx hb dX7_add_59 rfl (lv_at hl 1 rfl) ?_
    refine grX7_34_12 F K Z dX7_add_60 ?_
    refine lv_iload hx hb dX7_add_63 (lv_at hl 0 rfl) ?_
    refine lv_iload hx hb dX7_add_65 (lv_at hl 6 rfl) ?_
    obtain ⟨i67, hf⟩ := if_some hf
    refine as17 F K Z i67 dX7_add_67 (fun H locs Z => ?_)
    refine lv_aload_n hx hb dX7_add_68 rfl (lv_at hl 1 rfl) ?_
    refine lv_dup hx hb dX7_add_69 rfl ?_
    refine grX7_37_12 F K Z dX7_add_70 ?_
    refine lv_iconst (v := 1) hx hb dX7_add_73 (by decide) ?_
    refine lv_iadd hx hb dX7_add_74 ?_
    refine prX7_37_12 F K Z dX7_add_75 (fun H locs Z => ?_)
    refine lv_iload hx hb dX7_add_78 (lv_at hl 0 rfl) ?_
    have hf := Option.some.inj hf
    subst hf
    exact ret_i F hr hk Z dX7_add_80
  have hf := if_f c15 hf
  refine lv_iconst (v := -1) hx hb dX7_add_18 (by decide) ?_
  have hf := Option.some.inj hf
  subst hf
  exact ret_i F hr hk Z dX7_add_19
def f_X7_hypothesis_T0 (n : Nat) (st : StT) (x1 : Int32) : Option (Int32 × StT) := (f_X7_add_T0 n st (104 : Int32) x1 (0 : Int32) (0 : Int32) (-1 : Int32)).bind fun q7 => (some (q7.1, q7.2))
theorem wd56 : Cond.methodLink RX7 40 yX7_add ∈ Gw := gT4 (List.mem_of_getElem? (i := 74) rfl) rfl
theorem wd57 : Cond.code yX7_add prog_9_method_5_code 7 (some .int) ∈ Gw := gT4 (List.mem_of_getElem? (i := 77) rfl) rfl
theorem wd58 : Cond.instanceMethod yX7_add ∈ Gw := gT4 (List.mem_of_getElem? (i := 75) rfl) rfl
theorem wd59 : Cond.selects RX7 yX7_add yX7_add ∈ Gw := gT4 (List.mem_of_getElem? (i := 76) rfl) rfl
theorem wd60 : Cond.initialized RX7 ∈ Gw := gT1 (List.mem_of_getElem? (i := 6) rfl) rfl
section
variable {p : Program} {l : Launch} {e : Env} {R : Room} {s : State} {m : MethodId} {args : Array Value} {below : List Frame} {meth : Method} {c : Code} {H : Heap} {locs : List Loc} {Q : State → Prop}
variable {cc : ByteArray} {nL pc : Nat} {ls : Array Slot} {rest : List Value} {D : va_G} {A : Nat → Prop} {cw : Cond} {ad : Nat → Nat} {cy : Nat → ClassId} {ee : EE} {st : StT} {own : String}
theorem krX7_40_X7_add_T0 {n : Nat} {a0 : Int32} {a1 : Int32} {a2 : Int32} {a3 : Int32} {a4 : Int32} {q : (Int32 × StT)} (F : CallFix p m c cc nL s args (cw :: Gw) RX7) (K : va_K D vwCl (tyL cy) s) (E : EV ee A s s.heap) (hA : ∀ q, s.heap.size ≤ q → A q) (Z : ZG D (wC ad cy st) A s H locs) (hf : f_X7_add_T0 n st a0 a1 a2 a3 a4 = some q) (hR : 1 ≤ R.frames ∧ 26 ≤ R.locals) (hl : ls.size = nL) (hst : (rest.map fun v => v.category).sum ≤ 8) (hd : decode cc pc = .ok (.invokevirtual 40, 3)) (kk : ∀ (H1 : Heap) (locs1 : List Loc), ZG D (wC ad cy q.2) A s H1 locs1 → W p l e R s m args below meth c H1 locs1 0 0 Q (F0 m (pc + 3) ls (.int q.1 :: rest))) : W p l e R s m args below meth c H locs 0 0 Q (F0 m pc ls (.int a4 :: .int a3 :: .int a2 :: .int a1 :: .int a0 :: .ref (ad 12) :: rest)) :=
  call_V (q := (RX7, TX7, 7)) (n := 5) (As := [.int a0, .int a1, .int a2, .int a3, .int a4]) (rv := some (.int q.1)) 12 7 F K E hA Z (c_X7_add_T0 (l := l) (D := D) (ad := ad) (cy := cy) (ee := ee) hf) ⟨wd57, wd56, wd58, wd59, wd60⟩ (by decide +kernel) rfl rfl hR rfl hl hst hd kk
end
set_option maxRecDepth 100000 in
set_option maxHeartbeats 4000000 in
theorem c_X7_hypothesis_T0 {l : Launch} {D : va_G} {ad : Nat → Nat} {cy : Nat → ClassId} {ee : EE} {n : Nat} {st : StT} {x1 : Int32} {res : (Int32 × StT)} (hf : f_X7_hypothesis_T0 n st x1 = some res) : CT l yX7_hypothesis cX7_hypothesis 2 (some .int) 1 26 D cy ee (wC ad cy st) (wC ad cy res.2) [.ref (ad 12), .int x1] (some (.int res.1)) := by
  refine CT.of (by decide +kernel) (Nat.le_of_ble_eq_true rfl) ?_
  intro p e s m args below meth c A F hr hk K E hA Z ls hl
  have hl : lv_has ls 2 [(0, .ref (ad 12)), (1, .int x1)] := hl
  have hx := F.1
  have hb := F.2.1
  unfold f_X7_hypothesis_T0 at hf
  refine lv_aload_n hx hb dX7_hypothesis_0 rfl (lv_at hl 0 rfl) ?_
  refine lv_bipush (v := 104) hx hb dX7_hypothesis_1 (by decide) ?_
  refine lv_iload_n hx hb dX7_hypothesis_3 rfl (lv_at hl 1 rfl) ?_
  refine lv_iconst (v := 0) hx hb dX7_hypothesis_4 (by decide) ?_
  refine lv_iconst (v := 0) hx hb dX7_hypothesis_5 (by decide) ?_
  refine lv_iconst (v := -1) hx hb dX7_hypothesis_6 (by decide) ?_
  obtain ⟨q7, h7, hf⟩ := bind_some hf
  refine krX7_40_X7_add_T0 F K E hA Z h7 ⟨Nat.le_of_ble_eq_true rfl, Nat.le_of_ble_eq_true rfl⟩ hl.1 (Nat.le_of_ble_eq_true rfl) dX7_hypothesis_7 (fun H locs Z => ?_)
  have hf := Option.some.inj hf
  subst hf
  exact ret_i F hr hk Z dX7_hypothesis_10
def f_X7_unit_T0 (n : Nat) (st : StT) : Option (Int32 × StT) := (f_X7_add_T0 n st (84 : Int32) (0 : Int32) (0 : Int32) (0 : Int32) (-1 : Int32)).bind fun q7 => (some (q7.1, q7.2))
set_option maxRecDepth 100000 in
set_option maxHeartbeats 4000000 in
theorem c_X7_unit_T0 {l : Launch} {D : va_G} {ad : Nat → Nat} {cy : Nat → ClassId} {ee : EE} {n : Nat} {st : StT} {res : (Int32 × StT)} (hf : f_X7_unit_T0 n st = some res) : CT l yX7_unit cX7_unit 1 (some .int) 1 26 D cy ee (wC ad cy st) (wC ad cy res.2) [.ref (ad 12)] (some (.int res.1)) := by
  refine CT.of (by decide +kernel) (Nat.le_of_ble_eq_true rfl) ?_
  intro p e s m args below meth c A F hr hk K E hA Z ls hl
  have hl : lv_has ls 1 [(0, .ref (ad 12))] := hl
  have hx := F.1
  have hb := F.2.1
  unfold f_X7_unit_T0 at hf
  refine lv_aload_n hx hb dX7_unit_0 rfl (lv_at hl 0 rfl) ?_
  refine lv_bipush (v := 84) hx hb dX7_unit_1 (by decide) ?_
  refine lv_iconst (v := 0) hx hb dX7_unit_3 (by decide) ?_
  refine lv_iconst (v := 0) hx hb dX7_unit_4 (by decide) ?_
  refine lv_iconst (v := 0) hx hb dX7_unit_5 (by decide) ?_
  refine lv_iconst (v := -1) hx hb dX7_unit_6 (by decide) ?_
  obtain ⟨q7, h7, hf⟩ := bind_some hf
  refine krX7_40_X7_add_T0 F K E hA Z h7 ⟨Nat.le_of_ble_eq_true rfl, Nat.le_of_ble_eq_true rfl⟩ hl.1 (Nat.le_of_ble_eq_true rfl) dX7_unit_7 (fun H locs Z => ?_)
  have hf := Option.some.inj hf
  subst hf
  exact ret_i F hr hk Z dX7_unit_10
def f_X7_lambda_T0 (n : Nat) (st : StT) (x1 : Int32) (x2 : Int32) (x3 : Int32) : Option (Int32 × StT) := (f_X7_add_T0 n st (76 : Int32) x2 x1 (0 : Int32) x3).bind fun q7 => (some (q7.1, q7.2))
set_option maxRecDepth 100000 in
set_option maxHeartbeats 4000000 in
theorem c_X7_lambda_T0 {l : Launch} {D : va_G} {ad : Nat → Nat} {cy : Nat → ClassId} {ee : EE} {n : Nat} {st : StT} {x1 : Int32} {x2 : Int32} {x3 : Int32} {res : (Int32 × StT)} (hf : f_X7_lambda_T0 n st x1 x2 x3 = some res) : CT l yX7_lambda cX7_lambda 4 (some .int) 1 26 D cy ee (wC ad cy st) (wC ad cy res.2) [.ref (ad 12), .int x1, .int x2, .int x3] (some (.int res.1)) := by
  refine CT.of (by decide +kernel) (Nat.le_of_ble_eq_true rfl) ?_
  intro p e s m args below meth c A F hr hk K E hA Z ls hl
  have hl : lv_has ls 4 [(0, .ref (ad 12)), (1, .int x1), (2, .int x2), (3, .int x3)] := hl
  have hx := F.1
  have hb := F.2.1
  unfold f_X7_lambda_T0 at hf
  refine lv_aload_n hx hb dX7_lambda_0 rfl (lv_at hl 0 rfl) ?_
  refine lv_bipush (v := 76) hx hb dX7_lambda_1 (by decide) ?_
  refine lv_iload_n hx hb dX7_lambda_3 rfl (lv_at hl 2 rfl) ?_
  refine lv_iload_n hx hb dX7_lambda_4 rfl (lv_at hl 1 rfl) ?_
  refine lv_iconst (v := 0) hx hb dX7_lambda_5 (by decide) ?_
  refine lv_iload_n hx hb dX7_lambda_6 rfl (lv_at hl 3 rfl) ?_
  obtain ⟨q7, h7, hf⟩ := bind_some hf
  refine krX7_40_X7_add_T0 F K E hA Z h7 ⟨Nat.le_of_ble_eq_true rfl, Nat.le_of_ble_eq_true rfl⟩ hl.1 (Nat.le_of_ble_eq_true rfl) dX7_lambda_7 (fun H locs Z => ?_)
  have hf := Option.some.inj hf
  subst hf
  exact ret_i F hr hk Z dX7_lambda_10
def f_X7_one_T0 (n : Nat) (st : StT) (x1 : Int32) (x2 : Int32) : Option (Int32 × StT) := (f_X7_add_T0 n st x1 x2 (0 : Int32) (0 : Int32) (-1 : Int32)).bind fun q6 => (some (q6.1, q6.2))
set_option maxRecDepth 100000 in
set_option maxHeartbeats 4000000 in
theorem c_X7_one_T0 {l : Launch} {D : va_G} {ad : Nat → Nat} {cy : Nat → ClassId} {ee : EE} {n : Nat} {st : StT} {x1 : Int32} {x2 : Int32} {res : (Int32 × StT)} (hf : f_X7_one_T0 n st x1 x2 = some res) : CT l yX7_one cX7_one 3 (some .int) 1 26 D cy ee (wC ad cy st) (wC ad cy res.2) [.ref (ad 12), .int x1, .int x2] (some (.int res.1)) := by
  refine CT.of (by decide +kernel) (Nat.le_of_ble_eq_true rfl) ?_
  intro p e s m args below meth c A F hr hk K E hA Z ls hl
  have hl : lv_has ls 3 [(0, .ref (ad 12)), (1, .int x1), (2, .int x2)] := hl
  have hx := F.1
  have hb := F.2.1
  unfold f_X7_one_T0 at hf
  refine lv_aload_n hx hb dX7_one_0 rfl (lv_at hl 0 rfl) ?_
  refine lv_iload_n hx hb dX7_one_1 rfl (lv_at hl 1 rfl) ?_
  refine lv_iload_n hx hb dX7_one_2 rfl (lv_at hl 2 rfl) ?_
  refine lv_iconst (v := 0) hx hb dX7_one_3 (by decide) ?_
  refine lv_iconst (v := 0) hx hb dX7_one_4 (by decide) ?_
  refine lv_iconst (v := -1) hx hb dX7_one_5 (by decide) ?_
  obtain ⟨q6, h6, hf⟩ := bind_some hf
  refine krX7_40_X7_add_T0 F K E hA Z h6 ⟨Nat.le_of_ble_eq_true rfl, Nat.le_of_ble_eq_true rfl⟩ hl.1 (Nat.le_of_ble_eq_true rfl) dX7_one_6 (fun H locs Z => ?_)
  have hf := Option.some.inj hf
  subst hf
  exact ret_i F hr hk Z dX7_one_9
def f_X7_two_T0 (n : Nat) (st : StT) (x1 : Int32) (x2 : Int32) (x3 : Int32) : Option (Int32 × StT) := (f_X7_add_T0 n st x1 x2 x3 (0 : Int32) (-1 : Int32)).bind fun q6 => (some (q6.1, q6.2))
set_option maxRecDepth 100000 in
set_option maxHeartbeats 4000000 in
theorem c_X7_two_T0 {l : Launch} {D : va_G} {ad : Nat → Nat} {cy : Nat → ClassId} {ee : EE} {n : Nat} {st : StT} {x1 : Int32} {x2 : Int32} {x3 : Int32} {res : (Int32 × StT)} (hf : f_X7_two_T0 n st x1 x2 x3 = some res) : CT l yX7_two cX7_two 4 (some .int) 1 26 D cy ee (wC ad cy st) (wC ad cy res.2) [.ref (ad 12), .int x1, .int x2, .int x3] (some (.int res.1)) := by
  refine CT.of (by decide +kernel) (Nat.le_of_ble_eq_true rfl) ?_
  intro p e s m args below meth c A F hr hk K E hA Z ls hl
  have hl : lv_has ls 4 [(0, .ref (ad 12)), (1, .int x1), (2, .int x2), (3, .int x3)] := hl
  have hx := F.1
  have hb := F.2.1
  unfold f_X7_two_T0 at hf
  refine lv_aload_n hx hb dX7_two_0 rfl (lv_at hl 0 rfl) ?_
  refine lv_iload_n hx hb dX7_two_1 rfl (lv_at hl 1 rfl) ?_
  refine lv_iload_n hx hb dX7_two_2 rfl (lv_at hl 2 rfl) ?_
  refine lv_iload_n hx hb dX7_two_3 rfl (lv_at hl 3 rfl) ?_
  refine lv_iconst (v := 0) hx hb dX7_two_4 (by decide) ?_
  refine lv_iconst (v := -1) hx hb dX7_two_5 (by decide) ?_
  obtain ⟨q6, h6, hf⟩ := bind_some hf
  refine krX7_40_X7_add_T0 F K E hA Z h6 ⟨Nat.le_of_ble_eq_true rfl, Nat.le_of_ble_eq_true rfl⟩ hl.1 (Nat.le_of_ble_eq_true rfl) dX7_two_6 (fun H locs Z => ?_)
  have hf := Option.some.inj hf
  subst hf
  exact ret_i F hr hk Z dX7_two_9
def f_X7_has_T0 (n : Nat) (st : StT) (x1 : Int32) : Option (Int32 × StT) := if x1 < 0 then (some ((0 : Int32), st)) else (if (st.1 8) ≤ x1 then (some ((0 : Int32), st)) else (if (3000 : Int32) ≤ x1 then (some ((0 : Int32), st)) else (some ((1 : Int32), st))))
set_option maxRecDepth 100000 in
set_option maxHeartbeats 4000000 in
theorem c_X7_has_T0 {l : Launch} {D : va_G} {ad : Nat → Nat} {cy : Nat → ClassId} {ee : EE} {n : Nat} {st : StT} {x1 : Int32} {res : (Int32 × StT)} (hf : f_X7_has_T0 n st x1 = some res) : CT l yX7_has cX7_has 2 (some .boolean) 0 0 D cy ee (wC ad cy st) (wC ad cy res.2) [.ref (ad 12), .int x1] (some (.int res.1)) := by
  refine CT.of (by decide +kernel) (Nat.le_of_ble_eq_true rfl) ?_
  intro p e s m args below meth c A F hr hk K E hA Z ls hl
  have hl : lv_has ls 2 [(0, .ref (ad 12)), (1, .int x1)] := hl
  have hx := F.1
  have hb := F.2.1
  unfold f_X7_has_T0 at hf
  refine lv_iload_n hx hb dX7_has_0 rfl (lv_at hl 1 rfl) ?_
  refine lv_if_lt (tgt := 24) hx hb dX7_has_1 (by decide) (fun c1 => ?_) (fun c1 => ?_)
  · have hf := if_t c1 hf
    refine lv_iconst (v := 0) hx hb dX7_has_24 (by decide) ?_
    have hf := Option.some.inj hf
    subst hf
    exact ret_z F hr hk Z rfl dX7_has_25
  have hf := if_f c1 hf
  refine lv_iload_n hx hb dX7_has_4 rfl (lv_at hl 1 rfl) ?_
  refine lv_aload_n hx hb dX7_has_5 rfl (lv_at hl 0 rfl) ?_
  refine grX7_37_12 F K Z dX7_has_6 ?_
  refine lv_icmp_ge (tgt := 24) hx hb dX7_has_9 (by decide) (fun c9 => ?_) (fun c9 => ?_)
  · have hf := if_t c9 hf
    refine lv_iconst (v := 0) hx hb dX7_has_24 (by decide) ?_
    have hf := Option.some.inj hf
    subst hf
    exact ret_z F hr hk Z rfl dX7_has_25
  have hf := if_f c9 hf
  refine lv_iload_n hx hb dX7_has_12 rfl (lv_at hl 1 rfl) ?_
  refine lv_aload_n hx hb dX7_has_13 rfl (lv_at hl 0 rfl) ?_
  refine grX7_15_12 F K Z dX7_has_14 ?_
  refine lv_icmp_ge (tgt := 24) hx hb dX7_has_17 (by decide) (fun c17 => ?_) (fun c17 => ?_)
  · have hf := if_t c17 hf
    refine lv_iconst (v := 0) hx hb dX7_has_24 (by decide) ?_
    have hf := Option.some.inj hf
    subst hf
    exact ret_z F hr hk Z rfl dX7_has_25
  have hf := if_f c17 hf
  refine lv_iconst (v := 1) hx hb dX7_has_20 (by decide) ?_
  refine lv_goto (tgt := 25) hx hb dX7_has_21 (by decide) ?_
  have hf := Option.some.inj hf
  subst hf
  exact ret_z F hr hk Z rfl dX7_has_25
def f_X7_kindOf_T0 (n : Nat) (st : StT) (x1 : Int32) : Option (Int32 × StT) := (f_X7_has_T0 n st x1).bind fun q2 => (if q2.1 = 0 then (some ((-1 : Int32), q2.2)) else (if inB x1 3000 = true then (some ((q2.2.2.1 7 (x1).toNatClampNeg), q2.2)) else none))
theorem wd61 : Cond.methodLink RX7 44 yX7_has ∈ Gw := gT5 (List.mem_of_getElem? (i := 12) rfl) rfl
theorem wd62 : Cond.code yX7_has prog_9_method_11_code 2 (some .boolean) ∈ Gw := gT5 (List.mem_of_getElem? (i := 15) rfl) rfl
theorem wd63 : Cond.instanceMethod yX7_has ∈ Gw := gT5 (List.mem_of_getElem? (i := 13) rfl) rfl
theorem wd64 : Cond.selects RX7 yX7_has yX7_has ∈ Gw := gT5 (List.mem_of_getElem? (i := 14) rfl) rfl
section
variable {p : Program} {l : Launch} {e : Env} {R : Room} {s : State} {m : MethodId} {args : Array Value} {below : List Frame} {meth : Method} {c : Code} {H : Heap} {locs : List Loc} {Q : State → Prop}
variable {cc : ByteArray} {nL pc : Nat} {ls : Array Slot} {rest : List Value} {D : va_G} {A : Nat → Prop} {cw : Cond} {ad : Nat → Nat} {cy : Nat → ClassId} {ee : EE} {st : StT} {own : String}
theorem al13 {i : Int32} (F : CallFix p m c cc nL s args (cw :: Gw) own) (K : va_K D vwCl (tyL cy) s) (Z : ZG D (wC ad cy st) A s H locs) (hi : inB i 3000 = true) (hd : decode cc pc = .ok (.iaload, 1)) (kk : W p l e R s m args below meth c H locs 0 0 Q (F0 m (pc + 1) ls (.int (st.2.1 7 i.toNatClampNeg) :: rest))) : W p l e R s m args below meth c H locs 0 0 Q (F0 m pc ls (.int i :: .ref (ad 13) :: rest)) :=
  va_iald F.1 F.2.1 K Z.1 13 1 rfl rfl (inB_vp hi) hd kk
theorem krX7_44_X7_has_T0 {n : Nat} {a0 : Int32} {q : (Int32 × StT)} (F : CallFix p m c cc nL s args (cw :: Gw) RX7) (K : va_K D vwCl (tyL cy) s) (E : EV ee A s s.heap) (hA : ∀ q, s.heap.size ≤ q → A q) (Z : ZG D (wC ad cy st) A s H locs) (hf : f_X7_has_T0 n st a0 = some q) (hR : 1 ≤ R.frames ∧ 21 ≤ R.locals) (hl : ls.size = nL) (hst : (rest.map fun v => v.category).sum ≤ 8) (hd : decode cc pc = .ok (.invokevirtual 44, 3)) (kk : ∀ (H1 : Heap) (locs1 : List Loc), ZG D (wC ad cy q.2) A s H1 locs1 → W p l e R s m args below meth c H1 locs1 0 0 Q (F0 m (pc + 3) ls (.int q.1 :: rest))) : W p l e R s m args below meth c H locs 0 0 Q (F0 m pc ls (.int a0 :: .ref (ad 12) :: rest)) :=
  call_V (q := (RX7, TX7, 7)) (n := 1) (As := [.int a0]) (rv := some (.int q.1)) 12 7 F K E hA Z (c_X7_has_T0 (l := l) (D := D) (ad := ad) (cy := cy) (ee := ee) hf) ⟨wd62, wd61, wd63, wd64, wd60⟩ (by decide +kernel) rfl rfl hR rfl hl hst hd kk
end
set_option maxRecDepth 100000 in
set_option maxHeartbeats 4000000 in
theorem c_X7_kindOf_T0 {l : Launch} {D : va_G} {ad : Nat → Nat} {cy : Nat → ClassId} {ee : EE} {n : Nat} {st : StT} {x1 : Int32} {res : (Int32 × StT)} (hf : f_X7_kindOf_T0 n st x1 = some res) : CT l yX7_kindOf cX7_kindOf 2 (some .int) 1 21 D cy ee (wC ad cy st) (wC ad cy res.2) [.ref (ad 12), .int x1] (some (.int res.1)) := by
  refine CT.of (by decide +kernel) (Nat.le_of_ble_eq_true rfl) ?_
  intro p e s m args below meth c A F hr hk K E hA Z ls hl
  have hl : lv_has ls 2 [(0, .ref (ad 12)), (1, .int x1)] := hl
  have hx := F.1
  have hb := F.2.1
  unfold f_X7_kindOf_T0 at hf
  refine lv_aload_n hx hb dX7_kindOf_0 rfl (lv_at hl 0 rfl) ?_
  refine lv_iload_n hx hb dX7_kindOf_1 rfl (lv_at hl 1 rfl) ?_
  obtain ⟨q2, h2, hf⟩ := bind_some hf
  refine krX7_44_X7_has_T0 F K E hA Z h2 ⟨Nat.le_of_ble_eq_true rfl, Nat.le_of_ble_eq_true rfl⟩ hl.1 (Nat.le_of_ble_eq_true rfl) dX7_kindOf_2 (fun H locs Z => ?_)
  refine lv_if_eq (tgt := 17) hx hb dX7_kindOf_5 (by decide) (fun c5 => ?_) (fun c5 => ?_)
  · have hf := if_t c5 hf
    refine lv_iconst (v := -1) hx hb dX7_kindOf_17 (by decide) ?_
    have hf := Option.some.inj hf
    subst hf
    exact ret_i F hr hk Z dX7_kindOf_18
  have hf := if_f c5 hf
  refine lv_aload_n hx hb dX7_kindOf_8 rfl (lv_at hl 0 rfl) ?_
  refine grX7_21_12 F K Z dX7_kindOf_9 ?_
  refine lv_iload_n hx hb dX7_kindOf_12 rfl (lv_at hl 1 rfl) ?_
  obtain ⟨i13, hf⟩ := if_some hf
  refine al13 F K Z i13 dX7_kindOf_13 ?_
  refine lv_goto (tgt := 18) hx hb dX7_kindOf_14 (by decide) ?_
  have hf := Option.some.inj hf
  subst hf
  exact ret_i F hr hk Z dX7_kindOf_18
def f_X7_partOf_T0 (n : Nat) (st : StT) (x1 : Int32) (x2 : Int32) : Option (Int32 × StT) := (f_X7_has_T0 n st x1).bind fun q2 => (if q2.1 = 0 then (some ((-1 : Int32), q2.2)) else (if x2 = 0 then (if inB x1 3000 = true then (some ((q2.2.2.1 8 (x1).toNatClampNeg), q2.2)) else none) else (if x2 = (1 : Int32) then (if inB x1 3000 = true then (some ((q2.2.2.1 9 (x1).toNatClampNeg), q2.2)) else none) else (if inB x1 3000 = true then (some ((q2.2.2.1 10 (x1).toNatClampNeg), q2.2)) else none))))
section
variable {p : Program} {l : Launch} {e : Env} {R : Room} {s : State} {m : MethodId} {args : Array Value} {below : List Frame} {meth : Method} {c : Code} {H : Heap} {locs : List Loc} {Q : State → Prop}
variable {cc : ByteArray} {nL pc : Nat} {ls : Array Slot} {rest : List Value} {D : va_G} {A : Nat → Prop} {cw : Cond} {ad : Nat → Nat} {cy : Nat → ClassId} {ee : EE} {st : StT} {own : String}
theorem al16 {i : Int32} (F : CallFix p m c cc nL s args (cw :: Gw) own) (K : va_K D vwCl (tyL cy) s) (Z : ZG D (wC ad cy st) A s H locs) (hi : inB i 3000 = true) (hd : decode cc pc = .ok (.iaload, 1)) (kk : W p l e R s m args below meth c H locs 0 0 Q (F0 m (pc + 1) ls (.int (st.2.1 10 i.toNatClampNeg) :: rest))) : W p l e R s m args below meth c H locs 0 0 Q (F0 m pc ls (.int i :: .ref (ad 16) :: rest)) :=
  va_iald F.1 F.2.1 K Z.1 16 1 rfl rfl (inB_vp hi) hd kk
theorem al15 {i : Int32} (F : CallFix p m c cc nL s args (cw :: Gw) own) (K : va_K D vwCl (tyL cy) s) (Z : ZG D (wC ad cy st) A s H locs) (hi : inB i 3000 = true) (hd : decode cc pc = .ok (.iaload, 1)) (kk : W p l e R s m args below meth c H locs 0 0 Q (F0 m (pc + 1) ls (.int (st.2.1 9 i.toNatClampNeg) :: rest))) : W p l e R s m args below meth c H locs 0 0 Q (F0 m pc ls (.int i :: .ref (ad 15) :: rest)) :=
  va_iald F.1 F.2.1 K Z.1 15 1 rfl rfl (inB_vp hi) hd kk
theorem al14 {i : Int32} (F : CallFix p m c cc nL s args (cw :: Gw) own) (K : va_K D vwCl (tyL cy) s) (Z : ZG D (wC ad cy st) A s H locs) (hi : inB i 3000 = true) (hd : decode cc pc = .ok (.iaload, 1)) (kk : W p l e R s m args below meth c H locs 0 0 Q (F0 m (pc + 1) ls (.int (st.2.1 8 i.toNatClampNeg) :: rest))) : W p l e R s m args below meth c H locs 0 0 Q (F0 m pc ls (.int i :: .ref (ad 14) :: rest)) :=
  va_iald F.1 F.2.1 K Z.1 14 1 rfl rfl (inB_vp hi) hd kk
end
set_option maxRecDepth 100000 in
set_option maxHeartbeats 4000000 in
theorem c_X7_partOf_T0 {l : Launch} {D : va_G} {ad : Nat → Nat} {cy : Nat → ClassId} {ee : EE} {n : Nat} {st : StT} {x1 : Int32} {x2 : Int32} {res : (Int32 × StT)} (hf : f_X7_partOf_T0 n st x1 x2 = some res) : CT l yX7_partOf cX7_partOf 3 (some .int) 1 21 D cy ee (wC ad cy st) (wC ad cy res.2) [.ref (ad 12), .int x1, .int x2] (some (.int res.1)) := by
  refine CT.of (by decide +kernel) (Nat.le_of_ble_eq_true rfl) ?_
  intro p e s m args below meth c A F hr hk K E hA Z ls hl
  have hl : lv_has ls 3 [(0, .ref (ad 12)), (1, .int x1), (2, .int x2)] := hl
  have hx := F.1
  have hb := F.2.1
  unfold f_X7_partOf_T0 at hf
  refine lv_aload_n hx hb dX7_partOf_0 rfl (lv_at hl 0 rfl) ?_
  refine lv_iload_n hx hb dX7_partOf_1 rfl (lv_at hl 1 rfl) ?_
  obtain ⟨q2, h2, hf⟩ := bind_some hf
  refine krX7_44_X7_has_T0 F K E hA Z h2 ⟨Nat.le_of_ble_eq_true rfl, Nat.le_of_ble_eq_true rfl⟩ hl.1 (Nat.le_of_ble_eq_true rfl) dX7_partOf_2 (fun H locs Z => ?_)
  refine lv_if_ne (tgt := 10) hx hb dX7_partOf_5 (by decide) (fun c5 => ?_) (fun c5 => ?_)
  · have hf := if_f c5 hf
    refine lv_iload_n hx hb dX7_partOf_10 rfl (lv_at hl 2 rfl) ?_
    refine lv_if_ne (tgt := 23) hx hb dX7_partOf_11 (by decide) (fun c11 => ?_) (fun c11 => ?_)
    · have hf := if_f c11 hf
      refine lv_iload_n hx hb dX7_partOf_23 rfl (lv_at hl 2 rfl) ?_
      refine lv_iconst (v := 1) hx hb dX7_partOf_24 (by decide) ?_
      refine lv_icmp_ne (tgt := 37) hx hb dX7_partOf_25 (by decide) (fun c25 => ?_) (fun c25 => ?_)
      · have hf := if_f c25 hf
        refine lv_aload_n hx hb dX7_partOf_37 rfl (lv_at hl 0 rfl) ?_
        refine grX7_31_12 F K Z dX7_partOf_38 ?_
        refine lv_iload_n hx hb dX7_partOf_41 rfl (lv_at hl 1 rfl) ?_
        obtain ⟨i42, hf⟩ := if_some hf
        refine al16 F K Z i42 dX7_partOf_42 ?_
        have hf := Option.some.inj hf
        subst hf
        exact ret_i F hr hk Z dX7_partOf_43
      have hf := if_t c25 hf
      refine lv_aload_n hx hb dX7_partOf_28 rfl (lv_at hl 0 rfl) ?_
      refine grX7_28_12 F K Z dX7_partOf_29 ?_
      refine lv_iload_n hx hb dX7_partOf_32 rfl (lv_at hl 1 rfl) ?_
      obtain ⟨i33, hf⟩ := if_some hf
      refine al15 F K Z i33 dX7_partOf_33 ?_
      refine lv_goto (tgt := 43) hx hb dX7_partOf_34 (by decide) ?_
      have hf := Option.some.inj hf
      subst hf
      exact ret_i F hr hk Z dX7_partOf_43
    have hf := if_t c11 hf
    refine lv_aload_n hx hb dX7_partOf_14 rfl (lv_at hl 0 rfl) ?_
    refine grX7_25_12 F K Z dX7_partOf_15 ?_
    refine lv_iload_n hx hb dX7_partOf_18 rfl (lv_at hl 1 rfl) ?_
    obtain ⟨i19, hf⟩ := if_some hf
    refine al14 F K Z i19 dX7_partOf_19 ?_
    refine lv_goto (tgt := 43) hx hb dX7_partOf_20 (by decide) ?_
    have hf := Option.some.inj hf
    subst hf
    exact ret_i F hr hk Z dX7_partOf_43
  have hf := if_t c5 hf
  refine lv_iconst (v := -1) hx hb dX7_partOf_8 (by decide) ?_
  have hf := Option.some.inj hf
  subst hf
  exact ret_i F hr hk Z dX7_partOf_9
def f_X7_numberOf_T0 (n : Nat) (st : StT) (x1 : Int32) : Option (Int32 × StT) := (f_X7_partOf_T0 n st x1 (0 : Int32)).bind fun q3 => (some (q3.1, q3.2))
theorem wd65 : Cond.methodLink RX7 48 yX7_partOf ∈ Gw := gT5 (List.mem_of_getElem? (i := 30) rfl) rfl
theorem wd66 : Cond.code yX7_partOf prog_9_method_13_code 3 (some .int) ∈ Gw := gT5 (List.mem_of_getElem? (i := 33) rfl) rfl
theorem wd67 : Cond.instanceMethod yX7_partOf ∈ Gw := gT5 (List.mem_of_getElem? (i := 31) rfl) rfl
theorem wd68 : Cond.selects RX7 yX7_partOf yX7_partOf ∈ Gw := gT5 (List.mem_of_getElem? (i := 32) rfl) rfl
section
variable {p : Program} {l : Launch} {e : Env} {R : Room} {s : State} {m : MethodId} {args : Array Value} {below : List Frame} {meth : Method} {c : Code} {H : Heap} {locs : List Loc} {Q : State → Prop}
variable {cc : ByteArray} {nL pc : Nat} {ls : Array Slot} {rest : List Value} {D : va_G} {A : Nat → Prop} {cw : Cond} {ad : Nat → Nat} {cy : Nat → ClassId} {ee : EE} {st : StT} {own : String}
theorem krX7_48_X7_partOf_T0 {n : Nat} {a0 : Int32} {a1 : Int32} {q : (Int32 × StT)} (F : CallFix p m c cc nL s args (cw :: Gw) RX7) (K : va_K D vwCl (tyL cy) s) (E : EV ee A s s.heap) (hA : ∀ q, s.heap.size ≤ q → A q) (Z : ZG D (wC ad cy st) A s H locs) (hf : f_X7_partOf_T0 n st a0 a1 = some q) (hR : 2 ≤ R.frames ∧ 43 ≤ R.locals) (hl : ls.size = nL) (hst : (rest.map fun v => v.category).sum ≤ 8) (hd : decode cc pc = .ok (.invokevirtual 48, 3)) (kk : ∀ (H1 : Heap) (locs1 : List Loc), ZG D (wC ad cy q.2) A s H1 locs1 → W p l e R s m args below meth c H1 locs1 0 0 Q (F0 m (pc + 3) ls (.int q.1 :: rest))) : W p l e R s m args below meth c H locs 0 0 Q (F0 m pc ls (.int a1 :: .int a0 :: .ref (ad 12) :: rest)) :=
  call_V (q := (RX7, TX7, 7)) (n := 2) (As := [.int a0, .int a1]) (rv := some (.int q.1)) 12 7 F K E hA Z (c_X7_partOf_T0 (l := l) (D := D) (ad := ad) (cy := cy) (ee := ee) hf) ⟨wd66, wd65, wd67, wd68, wd60⟩ (by decide +kernel) rfl rfl hR rfl hl hst hd kk
end
set_option maxRecDepth 100000 in
set_option maxHeartbeats 4000000 in
theorem c_X7_numberOf_T0 {l : Launch} {D : va_G} {ad : Nat → Nat} {cy : Nat → ClassId} {ee : EE} {n : Nat} {st : StT} {x1 : Int32} {res : (Int32 × StT)} (hf : f_X7_numberOf_T0 n st x1 = some res) : CT l yX7_numberOf cX7_numberOf 2 (some .int) 2 43 D cy ee (wC ad cy st) (wC ad cy res.2) [.ref (ad 12), .int x1] (some (.int res.1)) := by
  refine CT.of (by decide +kernel) (Nat.le_of_ble_eq_true rfl) ?_
  intro p e s m args below meth c A F hr hk K E hA Z ls hl
  have hl : lv_has ls 2 [(0, .ref (ad 12)), (1, .int x1)] := hl
  have hx := F.1
  have hb := F.2.1
  unfold f_X7_numberOf_T0 at hf
  refine lv_aload_n hx hb dX7_numberOf_0 rfl (lv_at hl 0 rfl) ?_
  refine lv_iload_n hx hb dX7_numberOf_1 rfl (lv_at hl 1 rfl) ?_
  refine lv_iconst (v := 0) hx hb dX7_numberOf_2 (by decide) ?_
  obtain ⟨q3, h3, hf⟩ := bind_some hf
  refine krX7_48_X7_partOf_T0 F K E hA Z h3 ⟨Nat.le_of_ble_eq_true rfl, Nat.le_of_ble_eq_true rfl⟩ hl.1 (Nat.le_of_ble_eq_true rfl) dX7_numberOf_3 (fun H locs Z => ?_)
  have hf := Option.some.inj hf
  subst hf
  exact ret_i F hr hk Z dX7_numberOf_6
def f_X7_formulaOf_T0 (n : Nat) (st : StT) (x1 : Int32) : Option (Int32 × StT) := (f_X7_partOf_T0 n st x1 (1 : Int32)).bind fun q3 => (some (q3.1, q3.2))
set_option maxRecDepth 100000 in
set_option maxHeartbeats 4000000 in
theorem c_X7_formulaOf_T0 {l : Launch} {D : va_G} {ad : Nat → Nat} {cy : Nat → ClassId} {ee : EE} {n : Nat} {st : StT} {x1 : Int32} {res : (Int32 × StT)} (hf : f_X7_formulaOf_T0 n st x1 = some res) : CT l yX7_formulaOf cX7_formulaOf 2 (some .int) 2 43 D cy ee (wC ad cy st) (wC ad cy res.2) [.ref (ad 12), .int x1] (some (.int res.1)) := by
  refine CT.of (by decide +kernel) (Nat.le_of_ble_eq_true rfl) ?_
  intro p e s m args below meth c A F hr hk K E hA Z ls hl
  have hl : lv_has ls 2 [(0, .ref (ad 12)), (1, .int x1)] := hl
  have hx := F.1
  have hb := F.2.1
  unfold f_X7_formulaOf_T0 at hf
  refine lv_aload_n hx hb dX7_formulaOf_0 rfl (lv_at hl 0 rfl) ?_
  refine lv_iload_n hx hb dX7_formulaOf_1 rfl (lv_at hl 1 rfl) ?_
  refine lv_iconst (v := 1) hx hb dX7_formulaOf_2 (by decide) ?_
  obtain ⟨q3, h3, hf⟩ := bind_some hf
  refine krX7_48_X7_partOf_T0 F K E hA Z h3 ⟨Nat.le_of_ble_eq_true rfl, Nat.le_of_ble_eq_true rfl⟩ hl.1 (Nat.le_of_ble_eq_true rfl) dX7_formulaOf_3 (fun H locs Z => ?_)
  have hf := Option.some.inj hf
  subst hf
  exact ret_i F hr hk Z dX7_formulaOf_6
def f_X7_numberBound_T0_18 (n : Nat) (st : StT) (x2 : Int32) (y0 : Int32) : Option StT := (f_X7_has_T0 n st y0).bind fun q21 => (if q21.1 = 0 then (some q21.2) else (if inB y0 3000 = true then (some (uA q21.2 8 y0 x2)) else none))
def f_X7_numberBound_T0 (n : Nat) (st : StT) (x1 : Int32) (x2 : Int32) : Option StT := (f_X7_has_T0 n st x1).bind fun q2 => (if q2.1 = 0 then (f_X7_numberBound_T0_18 n q2.2 x2 (-1 : Int32)) else (if inB x1 3000 = true then (f_X7_numberBound_T0_18 n q2.2 x2 (q2.2.2.1 11 (x1).toNatClampNeg)) else none))
section
variable {p : Program} {l : Launch} {e : Env} {R : Room} {s : State} {m : MethodId} {args : Array Value} {below : List Frame} {meth : Method} {c : Code} {H : Heap} {locs : List Loc} {Q : State → Prop}
variable {cc : ByteArray} {nL pc : Nat} {ls : Array Slot} {rest : List Value} {D : va_G} {A : Nat → Prop} {cw : Cond} {ad : Nat → Nat} {cy : Nat → ClassId} {ee : EE} {st : StT} {own : String}
theorem al17 {i : Int32} (F : CallFix p m c cc nL s args (cw :: Gw) own) (K : va_K D vwCl (tyL cy) s) (Z : ZG D (wC ad cy st) A s H locs) (hi : inB i 3000 = true) (hd : decode cc pc = .ok (.iaload, 1)) (kk : W p l e R s m args below meth c H locs 0 0 Q (F0 m (pc + 1) ls (.int (st.2.1 11 i.toNatClampNeg) :: rest))) : W p l e R s m args below meth c H locs 0 0 Q (F0 m pc ls (.int i :: .ref (ad 17) :: rest)) :=
  va_iald F.1 F.2.1 K Z.1 17 1 rfl rfl (inB_vp hi) hd kk
end
set_option maxRecDepth 100000 in
set_option maxHeartbeats 4000000 in
theorem b_X7_numberBound_T0_18 {p : Program} {l : Launch} {e : Env} {s : State} {m : MethodId} {args : Array Value} {below : List Frame} {meth : Method} {c : Code} {D : va_G} {A : Nat → Prop} {ad : Nat → Nat} {cy : Nat → ClassId} {ee : EE} {n : Nat} {res : StT} (F : CallFix p m c cX7_numberBound 4 s args (Cond.code yX7_numberBound cX7_numberBound 4 none :: Gw) yX7_numberBound.cls) (hr : meth.sig.returnType = none) (hk : meth.locks = false) (K : va_K D vwCl (tyL cy) s) (E : EV ee A s s.heap) (hA : ∀ q, s.heap.size ≤ q → A q) : ∀ (st : StT) (x2 : Int32) (y0 : Int32), f_X7_numberBound_T0_18 n st x2 y0 = some res → ∀ (H : Heap) (locs : List Loc) (ls : Array Slot), ZG D (wC ad cy st) A s H locs → lv_has ls 4 [(0, .ref (ad 12)), (2, .int x2)] → W p l e { frames := 1, cells := 0, slots := 0, locals := 21 } s m args below meth c H locs 0 0 (MQ below (QC D (none) (wC ad cy res) A) args s 0 0 A) (F0 m 18 ls [.int y0]) := by
  have hx := F.1
  have hb := F.2.1
  intro st x2 y0 hf H locs ls Z hl
  unfold f_X7_numberBound_T0_18 at hf
  refine lv_istore_n (lv' := [(3, .int y0), (0, .ref (ad 12)), (2, .int x2)]) hx hb dX7_numberBound_18 rfl hl (by decide) rfl (fun ls hl => ?_)
  refine lv_aload_n hx hb dX7_numberBound_19 rfl (lv_at hl 1 rfl) ?_
  refine lv_iload_n hx hb dX7_numberBound_20 rfl (lv_at hl 0 rfl) ?_
  obtain ⟨q21, h21, hf⟩ := bind_some hf
  refine krX7_44_X7_has_T0 F K E hA Z h21 ⟨Nat.le_of_ble_eq_true rfl, Nat.le_of_ble_eq_true rfl⟩ hl.1 (Nat.le_of_ble_eq_true rfl) dX7_numberBound_21 (fun H locs Z => ?_)
  refine lv_if_eq (tgt := 34) hx hb dX7_numberBound_24 (by decide) (fun c24 => ?_) (fun c24 => ?_)
  · have hf := if_t c24 hf
    have hf := Option.some.inj hf
    subst hf
    exact ret_v F hr hk Z dX7_numberBound_34
  have hf := if_f c24 hf
  refine lv_aload_n hx hb dX7_numberBound_27 rfl (lv_at hl 1 rfl) ?_
  refine grX7_25_12 F K Z dX7_numberBound_28 ?_
  refine lv_iload_n hx hb dX7_numberBound_31 rfl (lv_at hl 0 rfl) ?_
  refine lv_iload_n hx hb dX7_numberBound_32 rfl (lv_at hl 2 rfl) ?_
  obtain ⟨i33, hf⟩ := if_some hf
  refine as14 F K Z i33 dX7_numberBound_33 (fun H locs Z => ?_)
  have hf := Option.some.inj hf
  subst hf
  exact ret_v F hr hk Z dX7_numberBound_34
set_option maxRecDepth 100000 in
set_option maxHeartbeats 4000000 in
theorem c_X7_numberBound_T0 {l : Launch} {D : va_G} {ad : Nat → Nat} {cy : Nat → ClassId} {ee : EE} {n : Nat} {st : StT} {x1 : Int32} {x2 : Int32} {res : StT} (hf : f_X7_numberBound_T0 n st x1 x2 = some res) : CT l yX7_numberBound cX7_numberBound 4 none 1 21 D cy ee (wC ad cy st) (wC ad cy res) [.ref (ad 12), .int x1, .int x2] (none) := by
  refine CT.of (by decide +kernel) (Nat.le_of_ble_eq_true rfl) ?_
  intro p e s m args below meth c A F hr hk K E hA Z ls hl
  have hl : lv_has ls 4 [(0, .ref (ad 12)), (1, .int x1), (2, .int x2)] := hl
  have hx := F.1
  have hb := F.2.1
  unfold f_X7_numberBound_T0 at hf
  refine lv_aload_n hx hb dX7_numberBound_0 rfl (lv_at hl 0 rfl) ?_
  refine lv_iload_n hx hb dX7_numberBound_1 rfl (lv_at hl 1 rfl) ?_
  obtain ⟨q2, h2, hf⟩ := bind_some hf
  refine krX7_44_X7_has_T0 F K E hA Z h2 ⟨Nat.le_of_ble_eq_true rfl, Nat.le_of_ble_eq_true rfl⟩ hl.1 (Nat.le_of_ble_eq_true rfl) dX7_numberBound_2 (fun H locs Z => ?_)
  refine lv_if_eq (tgt := 17) hx hb dX7_numberBound_5 (by decide) (fun c5 => ?_) (fun c5 => ?_)
  · have hf := if_t c5 hf
    refine lv_iconst (v := -1) hx hb dX7_numberBound_17 (by decide) ?_
    exact b_X7_numberBound_T0_18 F hr hk K E hA _ _ _ hf _ _ _ Z (lv_sub hl [0, 2] rfl)
  have hf := if_f c5 hf
  refine lv_aload_n hx hb dX7_numberBound_8 rfl (lv_at hl 0 rfl) ?_
  refine grX7_34_12 F K Z dX7_numberBound_9 ?_
  refine lv_iload_n hx hb dX7_numberBound_12 rfl (lv_at hl 1 rfl) ?_
  obtain ⟨i13, hf⟩ := if_some hf
  refine al17 F K Z i13 dX7_numberBound_13 ?_
  refine lv_goto (tgt := 18) hx hb dX7_numberBound_14 (by decide) ?_
  exact b_X7_numberBound_T0_18 F hr hk K E hA _ _ _ hf _ _ _ Z (lv_sub hl [0, 2] rfl)
