def f_X1_has_F1 (n : Nat) (st : StT) (x1 : Int32) : Option (Int32 × StT) := if x1 < 0 then (some ((0 : Int32), st)) else (if (st.1 25) ≤ x1 then (some ((0 : Int32), st)) else (if (3000 : Int32) ≤ x1 then (some ((0 : Int32), st)) else (some ((1 : Int32), st))))
section
variable {p : Program} {l : Launch} {e : Env} {R : Room} {s : State} {m : MethodId} {args : Array Value} {below : List Frame} {meth : Method} {c : Code} {H : Heap} {locs : List Loc} {Q : State → Prop}
variable {cc : ByteArray} {nL pc : Nat} {ls : Array Slot} {rest : List Value} {D : va_G} {A : Nat → Prop} {cw : Cond} {ad : Nat → Nat} {cy : Nat → ClassId} {ee : EE} {st : StT} {own : String}
theorem grX1_45_47 (F : CallFix p m c cc nL s args (cw :: Gw) RX1) (K : va_K D vwCl (tyL cy) s) (Z : ZG D (wC ad cy st) A s H locs) (hd : decode cc pc = .ok (.getfield 45, 3)) (kk : W p l e R s m args below meth c H locs 0 0 Q (F0 m (pc + 3) ls (.int (st.1 25) :: rest))) : W p l e R s m args below meth c H locs 0 0 Q (F0 m pc ls (.ref (ad 47) :: rest)) :=
  va_get (D := D) (ci := 1) (C := RX1) (T := TX1) (N := 9) F.1 F.2.1 F.2.2.2.2 (fun w h => List.mem_cons_of_mem _ (inG_X1 w h)) F.2.2.2.1 K Z.1 47 rfl rfl 7 (by decide) (F.2.2.2.2 _ (List.mem_cons_of_mem _ wd9)) (fun _ h => h) rfl hd kk
theorem grX1_25_47 (F : CallFix p m c cc nL s args (cw :: Gw) RX1) (K : va_K D vwCl (tyL cy) s) (Z : ZG D (wC ad cy st) A s H locs) (hd : decode cc pc = .ok (.getfield 25, 3)) (kk : W p l e R s m args below meth c H locs 0 0 Q (F0 m (pc + 3) ls (.int 3000 :: rest))) : W p l e R s m args below meth c H locs 0 0 Q (F0 m pc ls (.ref (ad 47) :: rest)) :=
  va_get (D := D) (ci := 1) (C := RX1) (T := TX1) (N := 9) F.1 F.2.1 F.2.2.2.2 (fun w h => List.mem_cons_of_mem _ (inG_X1 w h)) F.2.2.2.1 K Z.1 47 rfl rfl 0 (by decide) (F.2.2.2.2 _ (List.mem_cons_of_mem _ wd11)) (fun _ h => h) rfl hd kk
end
set_option maxRecDepth 100000 in
set_option maxHeartbeats 4000000 in
theorem c_X1_has_F1 {l : Launch} {D : va_G} {ad : Nat → Nat} {cy : Nat → ClassId} {ee : EE} {n : Nat} {st : StT} {x1 : Int32} {res : (Int32 × StT)} (hf : f_X1_has_F1 n st x1 = some res) : CT l yX1_has cX1_has 2 (some .boolean) 0 0 D cy ee (wC ad cy st) (wC ad cy res.2) [.ref (ad 47), .int x1] (some (.int res.1)) := by
  refine CT.of (by decide +kernel) (Nat.le_of_ble_eq_true rfl) ?_
  intro p e s m args below meth c A F hr hk K E hA Z ls hl
  have hl : lv_has ls 2 [(0, .ref (ad 47)), (1, .int x1)] := hl
  have hx := F.1
  have hb := F.2.1
  unfold f_X1_has_F1 at hf
  refine lv_iload_n hx hb dX1_has_0 rfl (lv_at hl 1 rfl) ?_
  refine lv_if_lt (tgt := 24) hx hb dX1_has_1 (by decide) (fun c1 => ?_) (fun c1 => ?_)
  · have hf := if_t c1 hf
    refine lv_iconst (v := 0) hx hb dX1_has_24 (by decide) ?_
    cases hf
    exact ret_z F hr hk Z rfl dX1_has_25
  have hf := if_f c1 hf
  refine lv_iload_n hx hb dX1_has_4 rfl (lv_at hl 1 rfl) ?_
  refine lv_aload_n hx hb dX1_has_5 rfl (lv_at hl 0 rfl) ?_
  refine grX1_45_47 F K Z dX1_has_6 ?_
  refine lv_icmp_ge (tgt := 24) hx hb dX1_has_9 (by decide) (fun c9 => ?_) (fun c9 => ?_)
  · have hf := if_t c9 hf
    refine lv_iconst (v := 0) hx hb dX1_has_24 (by decide) ?_
    cases hf
    exact ret_z F hr hk Z rfl dX1_has_25
  have hf := if_f c9 hf
  refine lv_iload_n hx hb dX1_has_12 rfl (lv_at hl 1 rfl) ?_
  refine lv_aload_n hx hb dX1_has_13 rfl (lv_at hl 0 rfl) ?_
  refine grX1_25_47 F K Z dX1_has_14 ?_
  refine lv_icmp_ge (tgt := 24) hx hb dX1_has_17 (by decide) (fun c17 => ?_) (fun c17 => ?_)
  · have hf := if_t c17 hf
    refine lv_iconst (v := 0) hx hb dX1_has_24 (by decide) ?_
    cases hf
    exact ret_z F hr hk Z rfl dX1_has_25
  have hf := if_f c17 hf
  refine lv_iconst (v := 1) hx hb dX1_has_20 (by decide) ?_
  refine lv_goto (tgt := 25) hx hb dX1_has_21 (by decide) ?_
  cases hf
  exact ret_z F hr hk Z rfl dX1_has_25
def f_X1_kindOf_F1 (n : Nat) (st : StT) (x1 : Int32) : Option (Int32 × StT) := (f_X1_has_F1 n st x1).bind fun q2 => (if q2.1 = 0 then (some ((-1 : Int32), q2.2)) else (if inB x1 3000 = true then (some ((q2.2.2.1 35 (x1).toNatClampNeg), q2.2)) else none))
section
variable {p : Program} {l : Launch} {e : Env} {R : Room} {s : State} {m : MethodId} {args : Array Value} {below : List Frame} {meth : Method} {c : Code} {H : Heap} {locs : List Loc} {Q : State → Prop}
variable {cc : ByteArray} {nL pc : Nat} {ls : Array Slot} {rest : List Value} {D : va_G} {A : Nat → Prop} {cw : Cond} {ad : Nat → Nat} {cy : Nat → ClassId} {ee : EE} {st : StT} {own : String}
theorem grX1_29_47 (F : CallFix p m c cc nL s args (cw :: Gw) RX1) (K : va_K D vwCl (tyL cy) s) (Z : ZG D (wC ad cy st) A s H locs) (hd : decode cc pc = .ok (.getfield 29, 3)) (kk : W p l e R s m args below meth c H locs 0 0 Q (F0 m (pc + 3) ls (.ref (ad 48) :: rest))) : W p l e R s m args below meth c H locs 0 0 Q (F0 m pc ls (.ref (ad 47) :: rest)) :=
  va_get (D := D) (ci := 1) (C := RX1) (T := TX1) (N := 9) F.1 F.2.1 F.2.2.2.2 (fun w h => List.mem_cons_of_mem _ (inG_X1 w h)) F.2.2.2.1 K Z.1 47 rfl rfl 1 (by decide) (F.2.2.2.2 _ (List.mem_cons_of_mem _ wd12)) (fun _ h => h) rfl hd kk
theorem al48 {i : Int32} (F : CallFix p m c cc nL s args (cw :: Gw) own) (K : va_K D vwCl (tyL cy) s) (Z : ZG D (wC ad cy st) A s H locs) (hi : inB i 3000 = true) (hd : decode cc pc = .ok (.iaload, 1)) (kk : W p l e R s m args below meth c H locs 0 0 Q (F0 m (pc + 1) ls (.int (st.2.1 35 i.toNatClampNeg) :: rest))) : W p l e R s m args below meth c H locs 0 0 Q (F0 m pc ls (.int i :: .ref (ad 48) :: rest)) :=
  va_iald F.1 F.2.1 K Z.1 48 1 rfl rfl (inB_vp hi) hd kk
theorem krX1_51_X1_has_F1 {n : Nat} {a0 : Int32} {q : (Int32 × StT)} (F : CallFix p m c cc nL s args (cw :: Gw) RX1) (K : va_K D vwCl (tyL cy) s) (E : EV ee A s s.heap) (hA : ∀ q, s.heap.size ≤ q → A q) (Z : ZG D (wC ad cy st) A s H locs) (hf : f_X1_has_F1 n st a0 = some q) (hR : 1 ≤ R.frames ∧ 21 ≤ R.locals) (hl : ls.size = nL) (hst : (rest.map fun v => v.category).sum ≤ 8) (hd : decode cc pc = .ok (.invokevirtual 51, 3)) (kk : ∀ (H1 : Heap) (locs1 : List Loc), ZG D (wC ad cy q.2) A s H1 locs1 → W p l e R s m args below meth c H1 locs1 0 0 Q (F0 m (pc + 3) ls (.int q.1 :: rest))) : W p l e R s m args below meth c H locs 0 0 Q (F0 m pc ls (.int a0 :: .ref (ad 47) :: rest)) :=
  call_V (q := (RX1, TX1, 9)) (n := 1) (As := [.int a0]) (rv := some (.int q.1)) 47 1 F K E hA Z (c_X1_has_F1 (l := l) (D := D) (ad := ad) (cy := cy) (ee := ee) hf) ⟨wd14, wd13, wd15, wd16, wd17⟩ (by decide +kernel) rfl rfl hR rfl hl hst hd kk
end
set_option maxRecDepth 100000 in
set_option maxHeartbeats 4000000 in
theorem c_X1_kindOf_F1 {l : Launch} {D : va_G} {ad : Nat → Nat} {cy : Nat → ClassId} {ee : EE} {n : Nat} {st : StT} {x1 : Int32} {res : (Int32 × StT)} (hf : f_X1_kindOf_F1 n st x1 = some res) : CT l yX1_kindOf cX1_kindOf 2 (some .int) 1 21 D cy ee (wC ad cy st) (wC ad cy res.2) [.ref (ad 47), .int x1] (some (.int res.1)) := by
  refine CT.of (by decide +kernel) (Nat.le_of_ble_eq_true rfl) ?_
  intro p e s m args below meth c A F hr hk K E hA Z ls hl
  have hl : lv_has ls 2 [(0, .ref (ad 47)), (1, .int x1)] := hl
  have hx := F.1
  have hb := F.2.1
  unfold f_X1_kindOf_F1 at hf
  refine lv_aload_n hx hb dX1_kindOf_0 rfl (lv_at hl 0 rfl) ?_
  refine lv_iload_n hx hb dX1_kindOf_1 rfl (lv_at hl 1 rfl) ?_
  obtain ⟨q2, h2, hf⟩ := bind_some hf
  refine krX1_51_X1_has_F1 F K E hA Z h2 ⟨Nat.le_of_ble_eq_true rfl, Nat.le_of_ble_eq_true rfl⟩ hl.1 (Nat.le_of_ble_eq_true rfl) dX1_kindOf_2 (fun H locs Z => ?_)
  refine lv_if_eq (tgt := 17) hx hb dX1_kindOf_5 (by decide) (fun c5 => ?_) (fun c5 => ?_)
  · have hf := if_t c5 hf
    refine lv_iconst (v := -1) hx hb dX1_kindOf_17 (by decide) ?_
    cases hf
    exact ret_i F hr hk Z dX1_kindOf_18
  have hf := if_f c5 hf
  refine lv_aload_n hx hb dX1_kindOf_8 rfl (lv_at hl 0 rfl) ?_
  refine grX1_29_47 F K Z dX1_kindOf_9 ?_
  refine lv_iload_n hx hb dX1_kindOf_12 rfl (lv_at hl 1 rfl) ?_
  obtain ⟨i13, hf⟩ := if_some hf
  refine al48 F K Z i13 dX1_kindOf_13 ?_
  refine lv_goto (tgt := 18) hx hb dX1_kindOf_14 (by decide) ?_
  cases hf
  exact ret_i F hr hk Z dX1_kindOf_18
def f_X1_firstOf_F1 (n : Nat) (st : StT) (x1 : Int32) : Option (Int32 × StT) := (f_X1_has_F1 n st x1).bind fun q2 => (if q2.1 = 0 then (some ((-1 : Int32), q2.2)) else (if inB x1 3000 = true then (some ((q2.2.2.1 36 (x1).toNatClampNeg), q2.2)) else none))
section
variable {p : Program} {l : Launch} {e : Env} {R : Room} {s : State} {m : MethodId} {args : Array Value} {below : List Frame} {meth : Method} {c : Code} {H : Heap} {locs : List Loc} {Q : State → Prop}
variable {cc : ByteArray} {nL pc : Nat} {ls : Array Slot} {rest : List Value} {D : va_G} {A : Nat → Prop} {cw : Cond} {ad : Nat → Nat} {cy : Nat → ClassId} {ee : EE} {st : StT} {own : String}
theorem grX1_32_47 (F : CallFix p m c cc nL s args (cw :: Gw) RX1) (K : va_K D vwCl (tyL cy) s) (Z : ZG D (wC ad cy st) A s H locs) (hd : decode cc pc = .ok (.getfield 32, 3)) (kk : W p l e R s m args below meth c H locs 0 0 Q (F0 m (pc + 3) ls (.ref (ad 49) :: rest))) : W p l e R s m args below meth c H locs 0 0 Q (F0 m pc ls (.ref (ad 47) :: rest)) :=
  va_get (D := D) (ci := 1) (C := RX1) (T := TX1) (N := 9) F.1 F.2.1 F.2.2.2.2 (fun w h => List.mem_cons_of_mem _ (inG_X1 w h)) F.2.2.2.1 K Z.1 47 rfl rfl 2 (by decide) (F.2.2.2.2 _ (List.mem_cons_of_mem _ wd18)) (fun _ h => h) rfl hd kk
theorem al49 {i : Int32} (F : CallFix p m c cc nL s args (cw :: Gw) own) (K : va_K D vwCl (tyL cy) s) (Z : ZG D (wC ad cy st) A s H locs) (hi : inB i 3000 = true) (hd : decode cc pc = .ok (.iaload, 1)) (kk : W p l e R s m args below meth c H locs 0 0 Q (F0 m (pc + 1) ls (.int (st.2.1 36 i.toNatClampNeg) :: rest))) : W p l e R s m args below meth c H locs 0 0 Q (F0 m pc ls (.int i :: .ref (ad 49) :: rest)) :=
  va_iald F.1 F.2.1 K Z.1 49 1 rfl rfl (inB_vp hi) hd kk
end
set_option maxRecDepth 100000 in
set_option maxHeartbeats 4000000 in
theorem c_X1_firstOf_F1 {l : Launch} {D : va_G} {ad : Nat → Nat} {cy : Nat → ClassId} {ee : EE} {n : Nat} {st : StT} {x1 : Int32} {res : (Int32 × StT)} (hf : f_X1_firstOf_F1 n st x1 = some res) : CT l yX1_firstOf cX1_firstOf 2 (some .int) 1 21 D cy ee (wC ad cy st) (wC ad cy res.2) [.ref (ad 47), .int x1] (some (.int res.1)) := by
  refine CT.of (by decide +kernel) (Nat.le_of_ble_eq_true rfl) ?_
  intro p e s m args below meth c A F hr hk K E hA Z ls hl
  have hl : lv_has ls 2 [(0, .ref (ad 47)), (1, .int x1)] := hl
  have hx := F.1
  have hb := F.2.1
  unfold f_X1_firstOf_F1 at hf
  refine lv_aload_n hx hb dX1_firstOf_0 rfl (lv_at hl 0 rfl) ?_
  refine lv_iload_n hx hb dX1_firstOf_1 rfl (lv_at hl 1 rfl) ?_
  obtain ⟨q2, h2, hf⟩ := bind_some hf
  refine krX1_51_X1_has_F1 F K E hA Z h2 ⟨Nat.le_of_ble_eq_true rfl, Nat.le_of_ble_eq_true rfl⟩ hl.1 (Nat.le_of_ble_eq_true rfl) dX1_firstOf_2 (fun H locs Z => ?_)
  refine lv_if_eq (tgt := 17) hx hb dX1_firstOf_5 (by decide) (fun c5 => ?_) (fun c5 => ?_)
  · have hf := if_t c5 hf
    refine lv_iconst (v := -1) hx hb dX1_firstOf_17 (by decide) ?_
    cases hf
    exact ret_i F hr hk Z dX1_firstOf_18
  have hf := if_f c5 hf
  refine lv_aload_n hx hb dX1_firstOf_8 rfl (lv_at hl 0 rfl) ?_
  refine grX1_32_47 F K Z dX1_firstOf_9 ?_
  refine lv_iload_n hx hb dX1_firstOf_12 rfl (lv_at hl 1 rfl) ?_
  obtain ⟨i13, hf⟩ := if_some hf
  refine al49 F K Z i13 dX1_firstOf_13 ?_
  refine lv_goto (tgt := 18) hx hb dX1_firstOf_14 (by decide) ?_
  cases hf
  exact ret_i F hr hk Z dX1_firstOf_18
def f_X1_secondOf_F1 (n : Nat) (st : StT) (x1 : Int32) : Option (Int32 × StT) := (f_X1_has_F1 n st x1).bind fun q2 => (if q2.1 = 0 then (some ((-1 : Int32), q2.2)) else (if inB x1 3000 = true then (some ((q2.2.2.1 37 (x1).toNatClampNeg), q2.2)) else none))
section
variable {p : Program} {l : Launch} {e : Env} {R : Room} {s : State} {m : MethodId} {args : Array Value} {below : List Frame} {meth : Method} {c : Code} {H : Heap} {locs : List Loc} {Q : State → Prop}
variable {cc : ByteArray} {nL pc : Nat} {ls : Array Slot} {rest : List Value} {D : va_G} {A : Nat → Prop} {cw : Cond} {ad : Nat → Nat} {cy : Nat → ClassId} {ee : EE} {st : StT} {own : String}
theorem grX1_35_47 (F : CallFix p m c cc nL s args (cw :: Gw) RX1) (K : va_K D vwCl (tyL cy) s) (Z : ZG D (wC ad cy st) A s H locs) (hd : decode cc pc = .ok (.getfield 35, 3)) (kk : W p l e R s m args below meth c H locs 0 0 Q (F0 m (pc + 3) ls (.ref (ad 50) :: rest))) : W p l e R s m args below meth c H locs 0 0 Q (F0 m pc ls (.ref (ad 47) :: rest)) :=
  va_get (D := D) (ci := 1) (C := RX1) (T := TX1) (N := 9) F.1 F.2.1 F.2.2.2.2 (fun w h => List.mem_cons_of_mem _ (inG_X1 w h)) F.2.2.2.1 K Z.1 47 rfl rfl 3 (by decide) (F.2.2.2.2 _ (List.mem_cons_of_mem _ wd19)) (fun _ h => h) rfl hd kk
theorem al50 {i : Int32} (F : CallFix p m c cc nL s args (cw :: Gw) own) (K : va_K D vwCl (tyL cy) s) (Z : ZG D (wC ad cy st) A s H locs) (hi : inB i 3000 = true) (hd : decode cc pc = .ok (.iaload, 1)) (kk : W p l e R s m args below meth c H locs 0 0 Q (F0 m (pc + 1) ls (.int (st.2.1 37 i.toNatClampNeg) :: rest))) : W p l e R s m args below meth c H locs 0 0 Q (F0 m pc ls (.int i :: .ref (ad 50) :: rest)) :=
  va_iald F.1 F.2.1 K Z.1 50 1 rfl rfl (inB_vp hi) hd kk
end
set_option maxRecDepth 100000 in
set_option maxHeartbeats 4000000 in
theorem c_X1_secondOf_F1 {l : Launch} {D : va_G} {ad : Nat → Nat} {cy : Nat → ClassId} {ee : EE} {n : Nat} {st : StT} {x1 : Int32} {res : (Int32 × StT)} (hf : f_X1_secondOf_F1 n st x1 = some res) : CT l yX1_secondOf cX1_secondOf 2 (some .int) 1 21 D cy ee (wC ad cy st) (wC ad cy res.2) [.ref (ad 47), .int x1] (some (.int res.1)) := by
  refine CT.of (by decide +kernel) (Nat.le_of_ble_eq_true rfl) ?_
  intro p e s m args below meth c A F hr hk K E hA Z ls hl
  have hl : lv_has ls 2 [(0, .ref (ad 47)), (1, .int x1)] := hl
  have hx := F.1
  have hb := F.2.1
  unfold f_X1_secondOf_F1 at hf
  refine lv_aload_n hx hb dX1_secondOf_0 rfl (lv_at hl 0 rfl) ?_
  refine lv_iload_n hx hb dX1_secondOf_1 rfl (lv_at hl 1 rfl) ?_
  obtain ⟨q2, h2, hf⟩ := bind_some hf
  refine krX1_51_X1_has_F1 F K E hA Z h2 ⟨Nat.le_of_ble_eq_true rfl, Nat.le_of_ble_eq_true rfl⟩ hl.1 (Nat.le_of_ble_eq_true rfl) dX1_secondOf_2 (fun H locs Z => ?_)
  refine lv_if_eq (tgt := 17) hx hb dX1_secondOf_5 (by decide) (fun c5 => ?_) (fun c5 => ?_)
  · have hf := if_t c5 hf
    refine lv_iconst (v := -1) hx hb dX1_secondOf_17 (by decide) ?_
    cases hf
    exact ret_i F hr hk Z dX1_secondOf_18
  have hf := if_f c5 hf
  refine lv_aload_n hx hb dX1_secondOf_8 rfl (lv_at hl 0 rfl) ?_
  refine grX1_35_47 F K Z dX1_secondOf_9 ?_
  refine lv_iload_n hx hb dX1_secondOf_12 rfl (lv_at hl 1 rfl) ?_
  obtain ⟨i13, hf⟩ := if_some hf
  refine al50 F K Z i13 dX1_secondOf_13 ?_
  refine lv_goto (tgt := 18) hx hb dX1_secondOf_14 (by decide) ?_
  cases hf
  exact ret_i F hr hk Z dX1_secondOf_18
def f_X1_find_F1_72 (n : Nat) (k18 : StT → Int32 → Int32 → Int32 → Int32 → Int32 → Option (Int32 × StT)) (st : StT) (x1 : Int32) (x2 : Int32) (x3 : Int32) (x4 : Int32) (x5 : Int32) : Option (Int32 × StT) := if inB x4 3000 = true then (k18 st x1 x2 x3 ((st.2.1 39 (x4).toNatClampNeg) - (1 : Int32)) (x5 + (1 : Int32))) else none
def f_X1_find_F1_18 (n : Nat) : Nat → StT → Int32 → Int32 → Int32 → Int32 → Int32 → Option (Int32 × StT)
  | 0, _, _, _, _, _, _ => none
  | k + 1, st, x1, x2, x3, x4, x5 => if (st.1 25) ≤ x5 then (some ((-1 : Int32), st)) else ((f_X1_has_F1 n st x4).bind fun q30 => (if q30.1 = 0 then (some ((-1 : Int32), q30.2)) else (if inB x4 3000 = true then (if (q30.2.2.1 35 (x4).toNatClampNeg) = x1 then (if inB x4 3000 = true then (if (q30.2.2.1 36 (x4).toNatClampNeg) = x2 then (if inB x4 3000 = true then (if (q30.2.2.1 37 (x4).toNatClampNeg) = x3 then (some (x4, q30.2)) else (f_X1_find_F1_72 n (f_X1_find_F1_18 n k) q30.2 x1 x2 x3 x4 x5)) else none) else (f_X1_find_F1_72 n (f_X1_find_F1_18 n k) q30.2 x1 x2 x3 x4 x5)) else none) else (f_X1_find_F1_72 n (f_X1_find_F1_18 n k) q30.2 x1 x2 x3 x4 x5)) else none)))
def f_X1_find_F1 (n : Nat) (st : StT) (x1 : Int32) (x2 : Int32) (x3 : Int32) : Option (Int32 × StT) := (f_X1_chainOf n st x1 x2 x3).bind fun q7 => (if inB q7.1 1024 = true then (f_X1_find_F1_18 n n q7.2 x1 x2 x3 ((q7.2.2.1 38 (q7.1).toNatClampNeg) - (1 : Int32)) (0 : Int32)) else none)
section
variable {p : Program} {l : Launch} {e : Env} {R : Room} {s : State} {m : MethodId} {args : Array Value} {below : List Frame} {meth : Method} {c : Code} {H : Heap} {locs : List Loc} {Q : State → Prop}
variable {cc : ByteArray} {nL pc : Nat} {ls : Array Slot} {rest : List Value} {D : va_G} {A : Nat → Prop} {cw : Cond} {ad : Nat → Nat} {cy : Nat → ClassId} {ee : EE} {st : StT} {own : String}
theorem grX1_11_47 (F : CallFix p m c cc nL s args (cw :: Gw) RX1) (K : va_K D vwCl (tyL cy) s) (Z : ZG D (wC ad cy st) A s H locs) (hd : decode cc pc = .ok (.getfield 11, 3)) (kk : W p l e R s m args below meth c H locs 0 0 Q (F0 m (pc + 3) ls (.ref (ad 51) :: rest))) : W p l e R s m args below meth c H locs 0 0 Q (F0 m pc ls (.ref (ad 47) :: rest)) :=
  va_get (D := D) (ci := 1) (C := RX1) (T := TX1) (N := 9) F.1 F.2.1 F.2.2.2.2 (fun w h => List.mem_cons_of_mem _ (inG_X1 w h)) F.2.2.2.1 K Z.1 47 rfl rfl 4 (by decide) (F.2.2.2.2 _ (List.mem_cons_of_mem _ wd20)) (fun _ h => h) rfl hd kk
theorem al51 {i : Int32} (F : CallFix p m c cc nL s args (cw :: Gw) own) (K : va_K D vwCl (tyL cy) s) (Z : ZG D (wC ad cy st) A s H locs) (hi : inB i 1024 = true) (hd : decode cc pc = .ok (.iaload, 1)) (kk : W p l e R s m args below meth c H locs 0 0 Q (F0 m (pc + 1) ls (.int (st.2.1 38 i.toNatClampNeg) :: rest))) : W p l e R s m args below meth c H locs 0 0 Q (F0 m pc ls (.int i :: .ref (ad 51) :: rest)) :=
  va_iald F.1 F.2.1 K Z.1 51 1 rfl rfl (inB_vp hi) hd kk
theorem grX1_38_47 (F : CallFix p m c cc nL s args (cw :: Gw) RX1) (K : va_K D vwCl (tyL cy) s) (Z : ZG D (wC ad cy st) A s H locs) (hd : decode cc pc = .ok (.getfield 38, 3)) (kk : W p l e R s m args below meth c H locs 0 0 Q (F0 m (pc + 3) ls (.ref (ad 52) :: rest))) : W p l e R s m args below meth c H locs 0 0 Q (F0 m pc ls (.ref (ad 47) :: rest)) :=
  va_get (D := D) (ci := 1) (C := RX1) (T := TX1) (N := 9) F.1 F.2.1 F.2.2.2.2 (fun w h => List.mem_cons_of_mem _ (inG_X1 w h)) F.2.2.2.1 K Z.1 47 rfl rfl 5 (by decide) (F.2.2.2.2 _ (List.mem_cons_of_mem _ wd21)) (fun _ h => h) rfl hd kk
theorem al52 {i : Int32} (F : CallFix p m c cc nL s args (cw :: Gw) own) (K : va_K D vwCl (tyL cy) s) (Z : ZG D (wC ad cy st) A s H locs) (hi : inB i 3000 = true) (hd : decode cc pc = .ok (.iaload, 1)) (kk : W p l e R s m args below meth c H locs 0 0 Q (F0 m (pc + 1) ls (.int (st.2.1 39 i.toNatClampNeg) :: rest))) : W p l e R s m args below meth c H locs 0 0 Q (F0 m pc ls (.int i :: .ref (ad 52) :: rest)) :=
  va_iald F.1 F.2.1 K Z.1 52 1 rfl rfl (inB_vp hi) hd kk
end
set_option maxRecDepth 100000 in
set_option maxHeartbeats 4000000 in
theorem b_X1_find_F1_72 {p : Program} {l : Launch} {e : Env} {s : State} {m : MethodId} {args : Array Value} {below : List Frame} {meth : Method} {c : Code} {D : va_G} {A : Nat → Prop} {ad : Nat → Nat} {cy : Nat → ClassId} {ee : EE} {n : Nat} {res : (Int32 × StT)} (F : CallFix p m c cX1_find 6 s args (Cond.code yX1_find cX1_find 6 (some .int) :: Gw) yX1_find.cls) (hr : meth.sig.returnType = (some .int)) (hk : meth.locks = false) (K : va_K D vwCl (tyL cy) s) (E : EV ee A s s.heap) (hA : ∀ q, s.heap.size ≤ q → A q) {k18 : StT → Int32 → Int32 → Int32 → Int32 → Int32 → Option (Int32 × StT)} (hk18 : ∀ (st : StT) (x1 : Int32) (x2 : Int32) (x3 : Int32) (x4 : Int32) (x5 : Int32), k18 st x1 x2 x3 x4 x5 = some res → ∀ (H : Heap) (locs : List Loc) (ls : Array Slot), ZG D (wC ad cy st) A s H locs → lv_has ls 6 [(0, .ref (ad 47)), (1, .int x1), (2, .int x2), (3, .int x3), (4, .int x4), (5, .int x5)] → W p l e { frames := 1, cells := 0, slots := 0, locals := 22 } s m args below meth c H locs 0 0 (MQ below (QC D (some (.int res.1)) (wC ad cy res.2) A) args s 0 0 A) (F0 m 18 ls [])) : ∀ (st : StT) (x1 : Int32) (x2 : Int32) (x3 : Int32) (x4 : Int32) (x5 : Int32), f_X1_find_F1_72 n k18 st x1 x2 x3 x4 x5 = some res → ∀ (H : Heap) (locs : List Loc) (ls : Array Slot), ZG D (wC ad cy st) A s H locs → lv_has ls 6 [(0, .ref (ad 47)), (1, .int x1), (2, .int x2), (3, .int x3), (4, .int x4), (5, .int x5)] → W p l e { frames := 1, cells := 0, slots := 0, locals := 22 } s m args below meth c H locs 0 0 (MQ below (QC D (some (.int res.1)) (wC ad cy res.2) A) args s 0 0 A) (F0 m 72 ls []) := by
  have hx := F.1
  have hb := F.2.1
  intro st x1 x2 x3 x4 x5 hf H locs ls Z hl
  unfold f_X1_find_F1_72 at hf
  refine lv_aload_n hx hb dX1_find_72 rfl (lv_at hl 0 rfl) ?_
  refine grX1_38_47 F K Z dX1_find_73 ?_
  refine lv_iload hx hb dX1_find_76 (lv_at hl 4 rfl) ?_
  obtain ⟨i78, hf⟩ := if_some hf
  refine al52 F K Z i78 dX1_find_78 ?_
  refine lv_iconst (v := 1) hx hb dX1_find_79 (by decide) ?_
  refine lv_isub hx hb dX1_find_80 ?_
  refine lv_istore (lv' := [(4, .int ((st.2.1 39 (x4).toNatClampNeg) - (1 : Int32))), (0, .ref (ad 47)), (1, .int x1), (2, .int x2), (3, .int x3), (5, .int x5)]) hx hb dX1_find_81 hl (by decide) rfl (fun ls hl => ?_)
  refine lv_iinc (v := (x5 + (1 : Int32))) (lv' := [(5, .int (x5 + (1 : Int32))), (4, .int ((st.2.1 39 (x4).toNatClampNeg) - (1 : Int32))), (0, .ref (ad 47)), (1, .int x1), (2, .int x2), (3, .int x3)]) hx hb dX1_find_83 hl (k := 5) rfl (congrArg (fun z => x5 + z) (by decide)) (by decide) rfl (fun ls hl => ?_)
  refine lv_goto (tgt := 18) hx hb dX1_find_86 (by decide) ?_
  exact hk18 _ _ _ _ _ _ hf _ _ _ Z (lv_sub hl [2, 3, 4, 5, 1, 0] rfl)
set_option maxRecDepth 100000 in
set_option maxHeartbeats 4000000 in
theorem b_X1_find_F1_18 {p : Program} {l : Launch} {e : Env} {s : State} {m : MethodId} {args : Array Value} {below : List Frame} {meth : Method} {c : Code} {D : va_G} {A : Nat → Prop} {ad : Nat → Nat} {cy : Nat → ClassId} {ee : EE} {n : Nat} {res : (Int32 × StT)} (F : CallFix p m c cX1_find 6 s args (Cond.code yX1_find cX1_find 6 (some .int) :: Gw) yX1_find.cls) (hr : meth.sig.returnType = (some .int)) (hk : meth.locks = false) (K : va_K D vwCl (tyL cy) s) (E : EV ee A s s.heap) (hA : ∀ q, s.heap.size ≤ q → A q) : ∀ (k : Nat) (st : StT) (x1 : Int32) (x2 : Int32) (x3 : Int32) (x4 : Int32) (x5 : Int32), f_X1_find_F1_18 n k st x1 x2 x3 x4 x5 = some res → ∀ (H : Heap) (locs : List Loc) (ls : Array Slot), ZG D (wC ad cy st) A s H locs → lv_has ls 6 [(0, .ref (ad 47)), (1, .int x1), (2, .int x2), (3, .int x3), (4, .int x4), (5, .int x5)] → W p l e { frames := 1, cells := 0, slots := 0, locals := 22 } s m args below meth c H locs 0 0 (MQ below (QC D (some (.int res.1)) (wC ad cy res.2) A) args s 0 0 A) (F0 m 18 ls []) := by
  have hx := F.1
  have hb := F.2.1
  intro k
  induction k with
  | zero =>
    intro st x1 x2 x3 x4 x5 hf
    exact absurd hf (by simp [f_X1_find_F1_18])
  | succ k ih =>
    intro st x1 x2 x3 x4 x5 hf H locs ls Z hl
    rw [f_X1_find_F1_18] at hf
    refine lv_iload hx hb dX1_find_18 (lv_at hl 5 rfl) ?_
    refine lv_aload_n hx hb dX1_find_20 rfl (lv_at hl 0 rfl) ?_
    refine grX1_45_47 F K Z dX1_find_21 ?_
    refine lv_icmp_ge (tgt := 89) hx hb dX1_find_24 (by decide) (fun c24 => ?_) (fun c24 => ?_)
    · have hf := if_t c24 hf
      refine lv_iconst (v := -1) hx hb dX1_find_89 (by decide) ?_
      cases hf
      exact ret_i F hr hk Z dX1_find_90
    have hf := if_f c24 hf
    refine lv_aload_n hx hb dX1_find_27 rfl (lv_at hl 0 rfl) ?_
    refine lv_iload hx hb dX1_find_28 (lv_at hl 4 rfl) ?_
    obtain ⟨q30, h30, hf⟩ := bind_some hf
    refine krX1_51_X1_has_F1 F K E hA Z h30 ⟨Nat.le_of_ble_eq_true rfl, Nat.le_of_ble_eq_true rfl⟩ hl.1 (Nat.le_of_ble_eq_true rfl) dX1_find_30 (fun H locs Z => ?_)
    refine lv_if_eq (tgt := 89) hx hb dX1_find_33 (by decide) (fun c33 => ?_) (fun c33 => ?_)
    · have hf := if_t c33 hf
      refine lv_iconst (v := -1) hx hb dX1_find_89 (by decide) ?_
      cases hf
      exact ret_i F hr hk Z dX1_find_90
    have hf := if_f c33 hf
    refine lv_aload_n hx hb dX1_find_36 rfl (lv_at hl 0 rfl) ?_
    refine grX1_29_47 F K Z dX1_find_37 ?_
    refine lv_iload hx hb dX1_find_40 (lv_at hl 4 rfl) ?_
    obtain ⟨i42, hf⟩ := if_some hf
    refine al48 F K Z i42 dX1_find_42 ?_
    refine lv_iload_n hx hb dX1_find_43 rfl (lv_at hl 1 rfl) ?_
    refine lv_icmp_ne (tgt := 72) hx hb dX1_find_44 (by decide) (fun c44 => ?_) (fun c44 => ?_)
    · have hf := if_f c44 hf
      exact b_X1_find_F1_72 F hr hk K E hA ih _ _ _ _ _ _ hf _ _ _ Z hl
    have hf := if_t c44 hf
    refine lv_aload_n hx hb dX1_find_47 rfl (lv_at hl 0 rfl) ?_
    refine grX1_32_47 F K Z dX1_find_48 ?_
    refine lv_iload hx hb dX1_find_51 (lv_at hl 4 rfl) ?_
    obtain ⟨i53, hf⟩ := if_some hf
    refine al49 F K Z i53 dX1_find_53 ?_
    refine lv_iload_n hx hb dX1_find_54 rfl (lv_at hl 2 rfl) ?_
    refine lv_icmp_ne (tgt := 72) hx hb dX1_find_55 (by decide) (fun c55 => ?_) (fun c55 => ?_)
    · have hf := if_f c55 hf
      exact b_X1_find_F1_72 F hr hk K E hA ih _ _ _ _ _ _ hf _ _ _ Z hl
    have hf := if_t c55 hf
    refine lv_aload_n hx hb dX1_find_58 rfl (lv_at hl 0 rfl) ?_
    refine grX1_35_47 F K Z dX1_find_59 ?_
    refine lv_iload hx hb dX1_find_62 (lv_at hl 4 rfl) ?_
    obtain ⟨i64, hf⟩ := if_some hf
    refine al50 F K Z i64 dX1_find_64 ?_
    refine lv_iload_n hx hb dX1_find_65 rfl (lv_at hl 3 rfl) ?_
    refine lv_icmp_ne (tgt := 72) hx hb dX1_find_66 (by decide) (fun c66 => ?_) (fun c66 => ?_)
    · have hf := if_f c66 hf
      exact b_X1_find_F1_72 F hr hk K E hA ih _ _ _ _ _ _ hf _ _ _ Z hl
    have hf := if_t c66 hf
    refine lv_iload hx hb dX1_find_69 (lv_at hl 4 rfl) ?_
    cases hf
    exact ret_i F hr hk Z dX1_find_71
set_option maxRecDepth 100000 in
set_option maxHeartbeats 4000000 in
theorem c_X1_find_F1 {l : Launch} {D : va_G} {ad : Nat → Nat} {cy : Nat → ClassId} {ee : EE} {n : Nat} {st : StT} {x1 : Int32} {x2 : Int32} {x3 : Int32} {res : (Int32 × StT)} (hf : f_X1_find_F1 n st x1 x2 x3 = some res) : CT l yX1_find cX1_find 6 (some .int) 1 22 D cy ee (wC ad cy st) (wC ad cy res.2) [.ref (ad 47), .int x1, .int x2, .int x3] (some (.int res.1)) := by
  refine CT.of (by decide +kernel) (Nat.le_of_ble_eq_true rfl) ?_
  intro p e s m args below meth c A F hr hk K E hA Z ls hl
  have hl : lv_has ls 6 [(0, .ref (ad 47)), (1, .int x1), (2, .int x2), (3, .int x3)] := hl
  have hx := F.1
  have hb := F.2.1
  unfold f_X1_find_F1 at hf
  refine lv_aload_n hx hb dX1_find_0 rfl (lv_at hl 0 rfl) ?_
  refine grX1_11_47 F K Z dX1_find_1 ?_
  refine lv_iload_n hx hb dX1_find_4 rfl (lv_at hl 1 rfl) ?_
  refine lv_iload_n hx hb dX1_find_5 rfl (lv_at hl 2 rfl) ?_
  refine lv_iload_n hx hb dX1_find_6 rfl (lv_at hl 3 rfl) ?_
  obtain ⟨q7, h7, hf⟩ := bind_some hf
  refine krX1_55_X1_chainOf F K E hA Z h7 ⟨Nat.le_of_ble_eq_true rfl, Nat.le_of_ble_eq_true rfl⟩ hl.1 (Nat.le_of_ble_eq_true rfl) dX1_find_7 (fun H locs Z => ?_)
  obtain ⟨i10, hf⟩ := if_some hf
  refine al51 F K Z i10 dX1_find_10 ?_
  refine lv_iconst (v := 1) hx hb dX1_find_11 (by decide) ?_
  refine lv_isub hx hb dX1_find_12 ?_
  refine lv_istore (lv' := [(4, .int ((q7.2.2.1 38 (q7.1).toNatClampNeg) - (1 : Int32))), (0, .ref (ad 47)), (1, .int x1), (2, .int x2), (3, .int x3)]) hx hb dX1_find_13 hl (by decide) rfl (fun ls hl => ?_)
  refine lv_iconst (v := 0) hx hb dX1_find_15 (by decide) ?_
  refine lv_istore (lv' := [(5, .int (0 : Int32)), (4, .int ((q7.2.2.1 38 (q7.1).toNatClampNeg) - (1 : Int32))), (0, .ref (ad 47)), (1, .int x1), (2, .int x2), (3, .int x3)]) hx hb dX1_find_16 hl (by decide) rfl (fun ls hl => ?_)
  exact b_X1_find_F1_18 F hr hk K E hA _ _ _ _ _ _ _ hf _ _ _ Z (lv_sub hl [2, 3, 4, 5, 1, 0] rfl)
def f_X1_add_F1 (n : Nat) (st : StT) (x1 : Int32) (x2 : Int32) (x3 : Int32) : Option (Int32 × StT) := if (st.1 25) < 0 then (some ((-1 : Int32), st)) else (if (st.1 25) < (3000 : Int32) then ((f_X1_chainOf n st x1 x2 x3).bind fun q23 => (if inB (q23.2.1 25) 3000 = true then (if inB (q23.2.1 25) 3000 = true then (if inB (q23.2.1 25) 3000 = true then (if inB q23.1 1024 = true then (if inB (q23.2.1 25) 3000 = true then (if inB q23.1 1024 = true then (some ((q23.2.1 25), (uA (uF (uA (uA (uA (uA q23.2 35 (q23.2.1 25) x1) 36 (q23.2.1 25) x2) 37 (q23.2.1 25) x3) 39 (q23.2.1 25) ((uA (uA (uA q23.2 35 (q23.2.1 25) x1) 36 (q23.2.1 25) x2) 37 (q23.2.1 25) x3).2.1 38 (q23.1).toNatClampNeg)) 25 (((uA (uA (uA (uA q23.2 35 (q23.2.1 25) x1) 36 (q23.2.1 25) x2) 37 (q23.2.1 25) x3) 39 (q23.2.1 25) ((uA (uA (uA q23.2 35 (q23.2.1 25) x1) 36 (q23.2.1 25) x2) 37 (q23.2.1 25) x3).2.1 38 (q23.1).toNatClampNeg)).1 25) + (1 : Int32))) 38 q23.1 ((uF (uA (uA (uA (uA q23.2 35 (q23.2.1 25) x1) 36 (q23.2.1 25) x2) 37 (q23.2.1 25) x3) 39 (q23.2.1 25) ((uA (uA (uA q23.2 35 (q23.2.1 25) x1) 36 (q23.2.1 25) x2) 37 (q23.2.1 25) x3).2.1 38 (q23.1).toNatClampNeg)) 25 (((uA (uA (uA (uA q23.2 35 (q23.2.1 25) x1) 36 (q23.2.1 25) x2) 37 (q23.2.1 25) x3) 39 (q23.2.1 25) ((uA (uA (uA q23.2 35 (q23.2.1 25) x1) 36 (q23.2.1 25) x2) 37 (q23.2.1 25) x3).2.1 38 (q23.1).toNatClampNeg)).1 25) + (1 : Int32))).1 25)))) else none) else none) else none) else none) else none) else none)) else (some ((-1 : Int32), st)))
section
variable {p : Program} {l : Launch} {e : Env} {R : Room} {s : State} {m : MethodId} {args : Array Value} {below : List Frame} {meth : Method} {c : Code} {H : Heap} {locs : List Loc} {Q : State → Prop}
variable {cc : ByteArray} {nL pc : Nat} {ls : Array Slot} {rest : List Value} {D : va_G} {A : Nat → Prop} {cw : Cond} {ad : Nat → Nat} {cy : Nat → ClassId} {ee : EE} {st : StT} {own : String}
theorem as48 {i : Int32} {v : Int32} (F : CallFix p m c cc nL s args (cw :: Gw) own) (K : va_K D vwCl (tyL cy) s) (Z : ZG D (wC ad cy st) A s H locs) (hi : inB i 3000 = true) (hd : decode cc pc = .ok (.iastore, 1)) (kk : ∀ (H1 : Heap) (locs1 : List Loc), ZG D (wC ad cy (uA st 35 i v)) A s H1 locs1 → W p l e R s m args below meth c H1 locs1 0 0 Q (F0 m (pc + 1) ls rest)) : W p l e R s m args below meth c H locs 0 0 Q (F0 m pc ls (.int v :: .int i :: .ref (ad 48) :: rest)) :=
  va_iast F.1 F.2.1 K Z.1 Z.2.1 Z.2.2 48 1 rfl rfl (inB_vp hi) hd (fun H1 locs1 hP hD hS => kk H1 locs1 ⟨hP, hD, hS⟩)
theorem as49 {i : Int32} {v : Int32} (F : CallFix p m c cc nL s args (cw :: Gw) own) (K : va_K D vwCl (tyL cy) s) (Z : ZG D (wC ad cy st) A s H locs) (hi : inB i 3000 = true) (hd : decode cc pc = .ok (.iastore, 1)) (kk : ∀ (H1 : Heap) (locs1 : List Loc), ZG D (wC ad cy (uA st 36 i v)) A s H1 locs1 → W p l e R s m args below meth c H1 locs1 0 0 Q (F0 m (pc + 1) ls rest)) : W p l e R s m args below meth c H locs 0 0 Q (F0 m pc ls (.int v :: .int i :: .ref (ad 49) :: rest)) :=
  va_iast F.1 F.2.1 K Z.1 Z.2.1 Z.2.2 49 1 rfl rfl (inB_vp hi) hd (fun H1 locs1 hP hD hS => kk H1 locs1 ⟨hP, hD, hS⟩)
theorem as50 {i : Int32} {v : Int32} (F : CallFix p m c cc nL s args (cw :: Gw) own) (K : va_K D vwCl (tyL cy) s) (Z : ZG D (wC ad cy st) A s H locs) (hi : inB i 3000 = true) (hd : decode cc pc = .ok (.iastore, 1)) (kk : ∀ (H1 : Heap) (locs1 : List Loc), ZG D (wC ad cy (uA st 37 i v)) A s H1 locs1 → W p l e R s m args below meth c H1 locs1 0 0 Q (F0 m (pc + 1) ls rest)) : W p l e R s m args below meth c H locs 0 0 Q (F0 m pc ls (.int v :: .int i :: .ref (ad 50) :: rest)) :=
  va_iast F.1 F.2.1 K Z.1 Z.2.1 Z.2.2 50 1 rfl rfl (inB_vp hi) hd (fun H1 locs1 hP hD hS => kk H1 locs1 ⟨hP, hD, hS⟩)
theorem as52 {i : Int32} {v : Int32} (F : CallFix p m c cc nL s args (cw :: Gw) own) (K : va_K D vwCl (tyL cy) s) (Z : ZG D (wC ad cy st) A s H locs) (hi : inB i 3000 = true) (hd : decode cc pc = .ok (.iastore, 1)) (kk : ∀ (H1 : Heap) (locs1 : List Loc), ZG D (wC ad cy (uA st 39 i v)) A s H1 locs1 → W p l e R s m args below meth c H1 locs1 0 0 Q (F0 m (pc + 1) ls rest)) : W p l e R s m args below meth c H locs 0 0 Q (F0 m pc ls (.int v :: .int i :: .ref (ad 52) :: rest)) :=
  va_iast F.1 F.2.1 K Z.1 Z.2.1 Z.2.2 52 1 rfl rfl (inB_vp hi) hd (fun H1 locs1 hP hD hS => kk H1 locs1 ⟨hP, hD, hS⟩)
theorem prX1_45_47 {v : Int32} (F : CallFix p m c cc nL s args (cw :: Gw) RX1) (K : va_K D vwCl (tyL cy) s) (Z : ZG D (wC ad cy st) A s H locs) (hd : decode cc pc = .ok (.putfield 45, 3)) (kk : ∀ (H1 : Heap) (locs1 : List Loc), ZG D (wC ad cy (uF st 25 v)) A s H1 locs1 → W p l e R s m args below meth c H1 locs1 0 0 Q (F0 m (pc + 3) ls rest)) : W p l e R s m args below meth c H locs 0 0 Q (F0 m pc ls (.int v :: .ref (ad 47) :: rest)) :=
  va_put (D := D) (ci := 1) (v := .int v) (ty := .int) (C := RX1) (T := TX1) (N := 9) F.1 F.2.1 F.2.2.2.2 (fun w h => List.mem_cons_of_mem _ (inG_X1 w h)) tyX1 tyX1_ok nmX1 F.2.2.2.1 K Z.1 Z.2.1 Z.2.2 47 rfl rfl 7 (by decide) (F.2.2.2.2 _ (List.mem_cons_of_mem _ wd9)) (fun _ h => h) rfl (by decide +kernel) rfl rfl (Nat.le_of_ble_eq_true rfl) hd (fun H1 locs1 hP hD hS => kk H1 locs1 ⟨hP, hD, hS⟩)
theorem as51 {i : Int32} {v : Int32} (F : CallFix p m c cc nL s args (cw :: Gw) own) (K : va_K D vwCl (tyL cy) s) (Z : ZG D (wC ad cy st) A s H locs) (hi : inB i 1024 = true) (hd : decode cc pc = .ok (.iastore, 1)) (kk : ∀ (H1 : Heap) (locs1 : List Loc), ZG D (wC ad cy (uA st 38 i v)) A s H1 locs1 → W p l e R s m args below meth c H1 locs1 0 0 Q (F0 m (pc + 1) ls rest)) : W p l e R s m args below meth c H locs 0 0 Q (F0 m pc ls (.int v :: .int i :: .ref (ad 51) :: rest)) :=
  va_iast F.1 F.2.1 K Z.1 Z.2.1 Z.2.2 51 1 rfl rfl (inB_vp hi) hd (fun H1 locs1 hP hD hS => kk H1 locs1 ⟨hP, hD, hS⟩)
end
set_option maxRecDepth 100000 in
set_option maxHeartbeats 4000000 in
theorem c_X1_add_F1 {l : Launch} {D : va_G} {ad : Nat → Nat} {cy : Nat → ClassId} {ee : EE} {n : Nat} {st : StT} {x1 : Int32} {x2 : Int32} {x3 : Int32} {res : (Int32 × StT)} (hf : f_X1_add_F1 n st x1 x2 x3 = some res) : CT l yX1_add cX1_add 6 (some .int) 1 22 D cy ee (wC ad cy st) (wC ad cy res.2) [.ref (ad 47), .int x1, .int x2, .int x3] (some (.int res.1)) := by
  refine CT.of (by decide +kernel) (Nat.le_of_ble_eq_true rfl) ?_
  intro p e s m args below meth c A F hr hk K E hA Z ls hl
  have hl : lv_has ls 6 [(0, .ref (ad 47)), (1, .int x1), (2, .int x2), (3, .int x3)] := hl
  have hx := F.1
  have hb := F.2.1
  unfold f_X1_add_F1 at hf
  refine lv_aload_n hx hb dX1_add_0 rfl (lv_at hl 0 rfl) ?_
  refine grX1_45_47 F K Z dX1_add_1 ?_
  refine lv_if_lt (tgt := 18) hx hb dX1_add_4 (by decide) (fun c4 => ?_) (fun c4 => ?_)
  · have hf := if_t c4 hf
    refine lv_iconst (v := -1) hx hb dX1_add_18 (by decide) ?_
    cases hf
    exact ret_i F hr hk Z dX1_add_19
  have hf := if_f c4 hf
  refine lv_aload_n hx hb dX1_add_7 rfl (lv_at hl 0 rfl) ?_
  refine grX1_45_47 F K Z dX1_add_8 ?_
  refine lv_aload_n hx hb dX1_add_11 rfl (lv_at hl 0 rfl) ?_
  refine grX1_25_47 F K Z dX1_add_12 ?_
  refine lv_icmp_lt (tgt := 20) hx hb dX1_add_15 (by decide) (fun c15 => ?_) (fun c15 => ?_)
  · have hf := if_t c15 hf
    refine lv_iload_n hx hb dX1_add_20 rfl (lv_at hl 1 rfl) ?_
    refine lv_iload_n hx hb dX1_add_21 rfl (lv_at hl 2 rfl) ?_
    refine lv_iload_n hx hb dX1_add_22 rfl (lv_at hl 3 rfl) ?_
    obtain ⟨q23, h23, hf⟩ := bind_some hf
    refine krX1_55_X1_chainOf F K E hA Z h23 ⟨Nat.le_of_ble_eq_true rfl, Nat.le_of_ble_eq_true rfl⟩ hl.1 (Nat.le_of_ble_eq_true rfl) dX1_add_23 (fun H locs Z => ?_)
    refine lv_istore (lv' := [(4, .int q23.1), (0, .ref (ad 47)), (1, .int x1), (2, .int x2), (3, .int x3)]) hx hb dX1_add_26 hl (by decide) rfl (fun ls hl => ?_)
    refine lv_aload_n hx hb dX1_add_28 rfl (lv_at hl 1 rfl) ?_
    refine grX1_45_47 F K Z dX1_add_29 ?_
    refine lv_istore (lv' := [(5, .int (q23.2.1 25)), (4, .int q23.1), (0, .ref (ad 47)), (1, .int x1), (2, .int x2), (3, .int x3)]) hx hb dX1_add_32 hl (by decide) rfl (fun ls hl => ?_)
    refine lv_aload_n hx hb dX1_add_34 rfl (lv_at hl 2 rfl) ?_
    refine grX1_29_47 F K Z dX1_add_35 ?_
    refine lv_iload hx hb dX1_add_38 (lv_at hl 0 rfl) ?_
    refine lv_iload_n hx hb dX1_add_40 rfl (lv_at hl 3 rfl) ?_
    obtain ⟨i41, hf⟩ := if_some hf
    refine as48 F K Z i41 dX1_add_41 (fun H locs Z => ?_)
    refine lv_aload_n hx hb dX1_add_42 rfl (lv_at hl 2 rfl) ?_
    refine grX1_32_47 F K Z dX1_add_43 ?_
    refine lv_iload hx hb dX1_add_46 (lv_at hl 0 rfl) ?_
    refine lv_iload_n hx hb dX1_add_48 rfl (lv_at hl 4 rfl) ?_
    obtain ⟨i49, hf⟩ := if_some hf
    refine as49 F K Z i49 dX1_add_49 (fun H locs Z => ?_)
    refine lv_aload_n hx hb dX1_add_50 rfl (lv_at hl 2 rfl) ?_
    refine grX1_35_47 F K Z dX1_add_51 ?_
    refine lv_iload hx hb dX1_add_54 (lv_at hl 0 rfl) ?_
    refine lv_iload_n hx hb dX1_add_56 rfl (lv_at hl 5 rfl) ?_
    obtain ⟨i57, hf⟩ := if_some hf
    refine as50 F K Z i57 dX1_add_57 (fun H locs Z => ?_)
    refine lv_aload_n hx hb dX1_add_58 rfl (lv_at hl 2 rfl) ?_
    refine grX1_38_47 F K Z dX1_add_59 ?_
    refine lv_iload hx hb dX1_add_62 (lv_at hl 0 rfl) ?_
    refine lv_aload_n hx hb dX1_add_64 rfl (lv_at hl 2 rfl) ?_
    refine grX1_11_47 F K Z dX1_add_65 ?_
    refine lv_iload hx hb dX1_add_68 (lv_at hl 1 rfl) ?_
    obtain ⟨i70, hf⟩ := if_some hf
    refine al51 F K Z i70 dX1_add_70 ?_
    obtain ⟨i71, hf⟩ := if_some hf
    refine as52 F K Z i71 dX1_add_71 (fun H locs Z => ?_)
    refine lv_aload_n hx hb dX1_add_72 rfl (lv_at hl 2 rfl) ?_
    refine lv_dup hx hb dX1_add_73 rfl ?_
    refine grX1_45_47 F K Z dX1_add_74 ?_
    refine lv_iconst (v := 1) hx hb dX1_add_77 (by decide) ?_
    refine lv_iadd hx hb dX1_add_78 ?_
    refine prX1_45_47 F K Z dX1_add_79 (fun H locs Z => ?_)
    refine lv_aload_n hx hb dX1_add_82 rfl (lv_at hl 2 rfl) ?_
    refine grX1_11_47 F K Z dX1_add_83 ?_
    refine lv_iload hx hb dX1_add_86 (lv_at hl 1 rfl) ?_
    refine lv_aload_n hx hb dX1_add_88 rfl (lv_at hl 2 rfl) ?_
    refine grX1_45_47 F K Z dX1_add_89 ?_
    obtain ⟨i92, hf⟩ := if_some hf
    refine as51 F K Z i92 dX1_add_92 (fun H locs Z => ?_)
    refine lv_iload hx hb dX1_add_93 (lv_at hl 0 rfl) ?_
    cases hf
    exact ret_i F hr hk Z dX1_add_95
  have hf := if_f c15 hf
  refine lv_iconst (v := -1) hx hb dX1_add_18 (by decide) ?_
  cases hf
  exact ret_i F hr hk Z dX1_add_19
def f_X1_joined_F1 (n : Nat) (st : StT) (x1 : Int32) (x2 : Int32) (x3 : Int32) : Option (Int32 × StT) := (f_X1_find_F1 n st x1 x2 x3).bind fun q4 => (if q4.1 < 0 then ((f_X1_add_F1 n q4.2 x1 x2 x3).bind fun q23 => (some (q23.1, q23.2))) else (some (q4.1, q4.2)))
section
variable {p : Program} {l : Launch} {e : Env} {R : Room} {s : State} {m : MethodId} {args : Array Value} {below : List Frame} {meth : Method} {c : Code} {H : Heap} {locs : List Loc} {Q : State → Prop}
variable {cc : ByteArray} {nL pc : Nat} {ls : Array Slot} {rest : List Value} {D : va_G} {A : Nat → Prop} {cw : Cond} {ad : Nat → Nat} {cy : Nat → ClassId} {ee : EE} {st : StT} {own : String}
theorem krX1_41_X1_add_F1 {n : Nat} {a0 : Int32} {a1 : Int32} {a2 : Int32} {q : (Int32 × StT)} (F : CallFix p m c cc nL s args (cw :: Gw) RX1) (K : va_K D vwCl (tyL cy) s) (E : EV ee A s s.heap) (hA : ∀ q, s.heap.size ≤ q → A q) (Z : ZG D (wC ad cy st) A s H locs) (hf : f_X1_add_F1 n st a0 a1 a2 = some q) (hR : 2 ≤ R.frames ∧ 47 ≤ R.locals) (hl : ls.size = nL) (hst : (rest.map fun v => v.category).sum ≤ 8) (hd : decode cc pc = .ok (.invokevirtual 41, 3)) (kk : ∀ (H1 : Heap) (locs1 : List Loc), ZG D (wC ad cy q.2) A s H1 locs1 → W p l e R s m args below meth c H1 locs1 0 0 Q (F0 m (pc + 3) ls (.int q.1 :: rest))) : W p l e R s m args below meth c H locs 0 0 Q (F0 m pc ls (.int a2 :: .int a1 :: .int a0 :: .ref (ad 47) :: rest)) :=
  call_V (q := (RX1, TX1, 9)) (n := 3) (As := [.int a0, .int a1, .int a2]) (rv := some (.int q.1)) 47 1 F K E hA Z (c_X1_add_F1 (l := l) (D := D) (ad := ad) (cy := cy) (ee := ee) hf) ⟨wd26, wd25, wd27, wd28, wd17⟩ (by decide +kernel) rfl rfl hR rfl hl hst hd kk
theorem krX1_58_X1_find_F1 {n : Nat} {a0 : Int32} {a1 : Int32} {a2 : Int32} {q : (Int32 × StT)} (F : CallFix p m c cc nL s args (cw :: Gw) RX1) (K : va_K D vwCl (tyL cy) s) (E : EV ee A s s.heap) (hA : ∀ q, s.heap.size ≤ q → A q) (Z : ZG D (wC ad cy st) A s H locs) (hf : f_X1_find_F1 n st a0 a1 a2 = some q) (hR : 2 ≤ R.frames ∧ 47 ≤ R.locals) (hl : ls.size = nL) (hst : (rest.map fun v => v.category).sum ≤ 8) (hd : decode cc pc = .ok (.invokevirtual 58, 3)) (kk : ∀ (H1 : Heap) (locs1 : List Loc), ZG D (wC ad cy q.2) A s H1 locs1 → W p l e R s m args below meth c H1 locs1 0 0 Q (F0 m (pc + 3) ls (.int q.1 :: rest))) : W p l e R s m args below meth c H locs 0 0 Q (F0 m pc ls (.int a2 :: .int a1 :: .int a0 :: .ref (ad 47) :: rest)) :=
  call_V (q := (RX1, TX1, 9)) (n := 3) (As := [.int a0, .int a1, .int a2]) (rv := some (.int q.1)) 47 1 F K E hA Z (c_X1_find_F1 (l := l) (D := D) (ad := ad) (cy := cy) (ee := ee) hf) ⟨wd30, wd29, wd31, wd32, wd17⟩ (by decide +kernel) rfl rfl hR rfl hl hst hd kk
end
set_option maxRecDepth 100000 in
set_option maxHeartbeats 4000000 in
theorem c_X1_joined_F1 {l : Launch} {D : va_G} {ad : Nat → Nat} {cy : Nat → ClassId} {ee : EE} {n : Nat} {st : StT} {x1 : Int32} {x2 : Int32} {x3 : Int32} {res : (Int32 × StT)} (hf : f_X1_joined_F1 n st x1 x2 x3 = some res) : CT l yX1_joined cX1_joined 5 (some .int) 2 47 D cy ee (wC ad cy st) (wC ad cy res.2) [.ref (ad 47), .int x1, .int x2, .int x3] (some (.int res.1)) := by
  refine CT.of (by decide +kernel) (Nat.le_of_ble_eq_true rfl) ?_
  intro p e s m args below meth c A F hr hk K E hA Z ls hl
  have hl : lv_has ls 5 [(0, .ref (ad 47)), (1, .int x1), (2, .int x2), (3, .int x3)] := hl
  have hx := F.1
  have hb := F.2.1
  unfold f_X1_joined_F1 at hf
  refine lv_aload_n hx hb dX1_joined_0 rfl (lv_at hl 0 rfl) ?_
  refine lv_iload_n hx hb dX1_joined_1 rfl (lv_at hl 1 rfl) ?_
  refine lv_iload_n hx hb dX1_joined_2 rfl (lv_at hl 2 rfl) ?_
  refine lv_iload_n hx hb dX1_joined_3 rfl (lv_at hl 3 rfl) ?_
  obtain ⟨q4, h4, hf⟩ := bind_some hf
  refine krX1_58_X1_find_F1 F K E hA Z h4 ⟨Nat.le_of_ble_eq_true rfl, Nat.le_of_ble_eq_true rfl⟩ hl.1 (Nat.le_of_ble_eq_true rfl) dX1_joined_4 (fun H locs Z => ?_)
  refine lv_istore (lv' := [(4, .int q4.1), (0, .ref (ad 47)), (1, .int x1), (2, .int x2), (3, .int x3)]) hx hb dX1_joined_7 hl (by decide) rfl (fun ls hl => ?_)
  refine lv_iload hx hb dX1_joined_9 (lv_at hl 0 rfl) ?_
  refine lv_if_lt (tgt := 19) hx hb dX1_joined_11 (by decide) (fun c11 => ?_) (fun c11 => ?_)
  · have hf := if_t c11 hf
    refine lv_aload_n hx hb dX1_joined_19 rfl (lv_at hl 1 rfl) ?_
    refine lv_iload_n hx hb dX1_joined_20 rfl (lv_at hl 2 rfl) ?_
    refine lv_iload_n hx hb dX1_joined_21 rfl (lv_at hl 3 rfl) ?_
    refine lv_iload_n hx hb dX1_joined_22 rfl (lv_at hl 4 rfl) ?_
    obtain ⟨q23, h23, hf⟩ := bind_some hf
    refine krX1_41_X1_add_F1 F K E hA Z h23 ⟨Nat.le_of_ble_eq_true rfl, Nat.le_of_ble_eq_true rfl⟩ hl.1 (Nat.le_of_ble_eq_true rfl) dX1_joined_23 (fun H locs Z => ?_)
    cases hf
    exact ret_i F hr hk Z dX1_joined_26
  have hf := if_f c11 hf
  refine lv_iload hx hb dX1_joined_14 (lv_at hl 0 rfl) ?_
  refine lv_goto (tgt := 26) hx hb dX1_joined_16 (by decide) ?_
  cases hf
  exact ret_i F hr hk Z dX1_joined_26
def f_X1_drop_F1_2 (n : Nat) : Nat → StT → Int32 → Option StT
  | 0, _, _ => none
  | k + 1, st, x1 => if (st.1 25) ≤ x1 then (some (uF st 25 (0 : Int32))) else (if (3000 : Int32) ≤ x1 then (some (uF st 25 (0 : Int32))) else (if inB x1 3000 = true then (if inB x1 3000 = true then (if inB x1 3000 = true then ((f_X1_chainOf n st (st.2.1 35 (x1).toNatClampNeg) (st.2.1 36 (x1).toNatClampNeg) (st.2.1 37 (x1).toNatClampNeg)).bind fun q40 => (if inB q40.1 1024 = true then (f_X1_drop_F1_2 n k (uA q40.2 38 q40.1 (0 : Int32)) (x1 + (1 : Int32))) else none)) else none) else none) else none))
def f_X1_drop_F1 (n : Nat) (st : StT) : Option StT := f_X1_drop_F1_2 n n st (0 : Int32)
set_option maxRecDepth 100000 in
set_option maxHeartbeats 4000000 in
theorem b_X1_drop_F1_2 {p : Program} {l : Launch} {e : Env} {s : State} {m : MethodId} {args : Array Value} {below : List Frame} {meth : Method} {c : Code} {D : va_G} {A : Nat → Prop} {ad : Nat → Nat} {cy : Nat → ClassId} {ee : EE} {n : Nat} {res : StT} (F : CallFix p m c cX1_drop 2 s args (Cond.code yX1_drop cX1_drop 2 none :: Gw) yX1_drop.cls) (hr : meth.sig.returnType = none) (hk : meth.locks = false) (K : va_K D vwCl (tyL cy) s) (E : EV ee A s s.heap) (hA : ∀ q, s.heap.size ≤ q → A q) : ∀ (k : Nat) (st : StT) (x1 : Int32), f_X1_drop_F1_2 n k st x1 = some res → ∀ (H : Heap) (locs : List Loc) (ls : Array Slot), ZG D (wC ad cy st) A s H locs → lv_has ls 2 [(0, .ref (ad 47)), (1, .int x1)] → W p l e { frames := 1, cells := 0, slots := 0, locals := 22 } s m args below meth c H locs 0 0 (MQ below (QC D (none) (wC ad cy res) A) args s 0 0 A) (F0 m 2 ls []) := by
  have hx := F.1
  have hb := F.2.1
  intro k
  induction k with
  | zero =>
    intro st x1 hf
    exact absurd hf (by simp [f_X1_drop_F1_2])
  | succ k ih =>
    intro st x1 hf H locs ls Z hl
    rw [f_X1_drop_F1_2] at hf
    refine lv_iload_n hx hb dX1_drop_2 rfl (lv_at hl 1 rfl) ?_
    refine lv_aload_n hx hb dX1_drop_3 rfl (lv_at hl 0 rfl) ?_
    refine grX1_45_47 F K Z dX1_drop_4 ?_
    refine lv_icmp_ge (tgt := 51) hx hb dX1_drop_7 (by decide) (fun c7 => ?_) (fun c7 => ?_)
    · have hf := if_t c7 hf
      refine lv_aload_n hx hb dX1_drop_51 rfl (lv_at hl 0 rfl) ?_
      refine lv_iconst (v := 0) hx hb dX1_drop_52 (by decide) ?_
      refine prX1_45_47 F K Z dX1_drop_53 (fun H locs Z => ?_)
      cases hf
      exact ret_v F hr hk Z dX1_drop_56
    have hf := if_f c7 hf
    refine lv_iload_n hx hb dX1_drop_10 rfl (lv_at hl 1 rfl) ?_
    refine lv_aload_n hx hb dX1_drop_11 rfl (lv_at hl 0 rfl) ?_
    refine grX1_25_47 F K Z dX1_drop_12 ?_
    refine lv_icmp_ge (tgt := 51) hx hb dX1_drop_15 (by decide) (fun c15 => ?_) (fun c15 => ?_)
    · have hf := if_t c15 hf
      refine lv_aload_n hx hb dX1_drop_51 rfl (lv_at hl 0 rfl) ?_
      refine lv_iconst (v := 0) hx hb dX1_drop_52 (by decide) ?_
      refine prX1_45_47 F K Z dX1_drop_53 (fun H locs Z => ?_)
      cases hf
      exact ret_v F hr hk Z dX1_drop_56
    have hf := if_f c15 hf
    refine lv_aload_n hx hb dX1_drop_18 rfl (lv_at hl 0 rfl) ?_
    refine grX1_11_47 F K Z dX1_drop_19 ?_
    refine lv_aload_n hx hb dX1_drop_22 rfl (lv_at hl 0 rfl) ?_
    refine grX1_29_47 F K Z dX1_drop_23 ?_
    refine lv_iload_n hx hb dX1_drop_26 rfl (lv_at hl 1 rfl) ?_
    obtain ⟨i27, hf⟩ := if_some hf
    refine al48 F K Z i27 dX1_drop_27 ?_
    refine lv_aload_n hx hb dX1_drop_28 rfl (lv_at hl 0 rfl) ?_
    refine grX1_32_47 F K Z dX1_drop_29 ?_
    refine lv_iload_n hx hb dX1_drop_32 rfl (lv_at hl 1 rfl) ?_
    obtain ⟨i33, hf⟩ := if_some hf
    refine al49 F K Z i33 dX1_drop_33 ?_
    refine lv_aload_n hx hb dX1_drop_34 rfl (lv_at hl 0 rfl) ?_
    refine grX1_35_47 F K Z dX1_drop_35 ?_
    refine lv_iload_n hx hb dX1_drop_38 rfl (lv_at hl 1 rfl) ?_
    obtain ⟨i39, hf⟩ := if_some hf
    refine al50 F K Z i39 dX1_drop_39 ?_
    obtain ⟨q40, h40, hf⟩ := bind_some hf
    refine krX1_55_X1_chainOf F K E hA Z h40 ⟨Nat.le_of_ble_eq_true rfl, Nat.le_of_ble_eq_true rfl⟩ hl.1 (Nat.le_of_ble_eq_true rfl) dX1_drop_40 (fun H locs Z => ?_)
    refine lv_iconst (v := 0) hx hb dX1_drop_43 (by decide) ?_
    obtain ⟨i44, hf⟩ := if_some hf
    refine as51 F K Z i44 dX1_drop_44 (fun H locs Z => ?_)
    refine lv_iinc (v := (x1 + (1 : Int32))) (lv' := [(1, .int (x1 + (1 : Int32))), (0, .ref (ad 47))]) hx hb dX1_drop_45 hl (k := 1) rfl (congrArg (fun z => x1 + z) (by decide)) (by decide) rfl (fun ls hl => ?_)
    refine lv_goto (tgt := 2) hx hb dX1_drop_48 (by decide) ?_
    exact ih _ _ hf _ _ _ Z (lv_sub hl [1, 0] rfl)
set_option maxRecDepth 100000 in
set_option maxHeartbeats 4000000 in
theorem c_X1_drop_F1 {l : Launch} {D : va_G} {ad : Nat → Nat} {cy : Nat → ClassId} {ee : EE} {n : Nat} {st : StT} {res : StT} (hf : f_X1_drop_F1 n st = some res) : CT l yX1_drop cX1_drop 2 none 1 22 D cy ee (wC ad cy st) (wC ad cy res) [.ref (ad 47)] (none) := by
  refine CT.of (by decide +kernel) (Nat.le_of_ble_eq_true rfl) ?_
  intro p e s m args below meth c A F hr hk K E hA Z ls hl
  have hl : lv_has ls 2 [(0, .ref (ad 47))] := hl
  have hx := F.1
  have hb := F.2.1
  unfold f_X1_drop_F1 at hf
  refine lv_iconst (v := 0) hx hb dX1_drop_0 (by decide) ?_
  refine lv_istore_n (lv' := [(1, .int (0 : Int32)), (0, .ref (ad 47))]) hx hb dX1_drop_1 rfl hl (by decide) rfl (fun ls hl => ?_)
  exact b_X1_drop_F1_2 F hr hk K E hA _ _ _ hf _ _ _ Z (lv_sub hl [1, 0] rfl)
