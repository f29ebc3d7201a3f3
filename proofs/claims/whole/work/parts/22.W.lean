def f_X11_feed (n : Nat) (st : StT) (x1 : Int64) (x3 : Int32) : Option (Int32 × StT) := if x3 < 0 then (some ((-2 : Int32), st)) else (if x3 ≤ (8 : Int32) then (if x3 = 0 then ((f_X8_drop n st).bind fun q21 => (some ((0 : Int32), q21))) else ((f_X8_append n st x1 x3).bind fun q32 => (some (q32.1, q32.2)))) else (some ((-2 : Int32), st)))
theorem wd790 : Cond.laysFinal RX11 "WorldProver" "tokens" "LWorldProver$Tokens;" ∈ Gw := gT2 (List.mem_of_getElem? (i := 146) rfl) rfl
theorem wd791 : Cond.laysFinal RX11 "WorldProver" "formulas" "LWorldProver$Formulas;" ∈ Gw := gT2 (List.mem_of_getElem? (i := 148) rfl) rfl
theorem wd792 : Cond.laysFinal RX11 "WorldProver" "reader" "LWorldProver$Reader;" ∈ Gw := gT2 (List.mem_of_getElem? (i := 150) rfl) rfl
theorem wd793 : Cond.laysFinal RX11 "WorldProver" "writer" "LWorldProver$Writer;" ∈ Gw := gT2 (List.mem_of_getElem? (i := 152) rfl) rfl
theorem wd794 : Cond.laysFinal RX11 "WorldProver" "search" "LWorldProver$Search;" ∈ Gw := gT2 (List.mem_of_getElem? (i := 154) rfl) rfl
theorem wd795 : Cond.laysFinal RX11 "WorldProver" "checker" "LWorldProver$Checker;" ∈ Gw := gT2 (List.mem_of_getElem? (i := 156) rfl) rfl
theorem wd796 : Cond.laysFinal RX11 "WorldProver" "parts" "LWorldProver$Parts;" ∈ Gw := gT2 (List.mem_of_getElem? (i := 158) rfl) rfl
theorem wd797 : Cond.laysFinal RX11 "WorldProver" "worlds" "LWorldProver$Worlds;" ∈ Gw := gT2 (List.mem_of_getElem? (i := 160) rfl) rfl
theorem wd798 : Cond.laysFinal RX11 "WorldProver" "givens" "[I" ∈ Gw := gT2 (List.mem_of_getElem? (i := 162) rfl) rfl
theorem wd799 : Cond.lays RX11 "WorldProver" "givenMany" "I" ∈ Gw := gT2 (List.mem_of_getElem? (i := 164) rfl) rfl
theorem wd800 : Cond.fieldLink RX11 16 "WorldProver" "tokens" "LWorldProver$Tokens;" ∈ Gw := gT2 (List.mem_of_getElem? (i := 136) rfl) rfl
theorem wd801 : Cond.methodLink RX11 84 yX8_append ∈ Gw := gT2 (List.mem_of_getElem? (i := 175) rfl) rfl
theorem wd802 : Cond.code yX8_append prog_10_method_4_code 5 (some .int) ∈ Gw := gT2 (List.mem_of_getElem? (i := 178) rfl) rfl
theorem wd803 : Cond.instanceMethod yX8_append ∈ Gw := gT2 (List.mem_of_getElem? (i := 176) rfl) rfl
theorem wd804 : Cond.selects RX8 yX8_append yX8_append ∈ Gw := gT2 (List.mem_of_getElem? (i := 177) rfl) rfl
theorem wd805 : Cond.methodLink RX11 81 yX8_drop ∈ Gw := gT2 (List.mem_of_getElem? (i := 171) rfl) rfl
theorem wd806 : Cond.code yX8_drop prog_10_method_3_code 1 none ∈ Gw := gT2 (List.mem_of_getElem? (i := 174) rfl) rfl
theorem wd807 : Cond.instanceMethod yX8_drop ∈ Gw := gT2 (List.mem_of_getElem? (i := 172) rfl) rfl
theorem wd808 : Cond.selects RX8 yX8_drop yX8_drop ∈ Gw := gT2 (List.mem_of_getElem? (i := 173) rfl) rfl
theorem inG_X11 : ∀ w ∈ u_ws RX11 TX11 10, w ∈ Gw := by
  intro w h
  obtain ⟨k, hk, rfl⟩ := List.mem_map.mp h
  have hk := List.mem_range.mp hk
  by_cases h0 : k = 0
  · subst h0; exact wd790
  by_cases h1 : k = 1
  · subst h1; exact wd791
  by_cases h2 : k = 2
  · subst h2; exact wd792
  by_cases h3 : k = 3
  · subst h3; exact wd793
  by_cases h4 : k = 4
  · subst h4; exact wd794
  by_cases h5 : k = 5
  · subst h5; exact wd795
  by_cases h6 : k = 6
  · subst h6; exact wd796
  by_cases h7 : k = 7
  · subst h7; exact wd797
  by_cases h8 : k = 8
  · subst h8; exact wd798
  by_cases h9 : k = 9
  · subst h9; exact wd799
  omega
section
variable {p : Program} {l : Launch} {e : Env} {R : Room} {s : State} {m : MethodId} {args : Array Value} {below : List Frame} {meth : Method} {c : Code} {H : Heap} {locs : List Loc} {Q : State → Prop}
variable {cc : ByteArray} {nL pc : Nat} {ls : Array Slot} {rest : List Value} {D : va_G} {A : Nat → Prop} {cw : Cond} {ad : Nat → Nat} {cy : Nat → ClassId} {ee : EE} {st : StT} {own : String}
theorem grX11_16_0 (F : CallFix p m c cc nL s args (cw :: Gw) RX11) (K : va_K D vwCl (tyL cy) s) (Z : ZG D (wC ad cy st) A s H locs) (hd : decode cc pc = .ok (.getfield 16, 3)) (kk : W p l e R s m args below meth c H locs 0 0 Q (F0 m (pc + 3) ls (.ref (ad 2) :: rest))) : W p l e R s m args below meth c H locs 0 0 Q (F0 m pc ls (.ref (ad 0) :: rest)) :=
  va_get (D := D) (ci := 11) (C := RX11) (T := TX11) (N := 10) F.1 F.2.1 F.2.2.2.2 (fun w h => List.mem_cons_of_mem _ (inG_X11 w h)) F.2.2.2.1 K Z.1 0 rfl rfl 0 (by decide) (F.2.2.2.2 _ (List.mem_cons_of_mem _ wd800)) (fun _ h => h) rfl hd kk
theorem krX11_84_X8_append {n : Nat} {a0 : Int64} {a1 : Int32} {q : (Int32 × StT)} (F : CallFix p m c cc nL s args (cw :: Gw) RX11) (K : va_K D vwCl (tyL cy) s) (E : EV ee A s s.heap) (hA : ∀ q, s.heap.size ≤ q → A q) (Z : ZG D (wC ad cy st) A s H locs) (hf : f_X8_append n st a0 a1 = some q) (hR : 1 ≤ R.frames ∧ 24 ≤ R.locals) (hl : ls.size = nL) (hst : (rest.map fun v => v.category).sum ≤ 8) (hd : decode cc pc = .ok (.invokevirtual 84, 3)) (kk : ∀ (H1 : Heap) (locs1 : List Loc), ZG D (wC ad cy q.2) A s H1 locs1 → W p l e R s m args below meth c H1 locs1 0 0 Q (F0 m (pc + 3) ls (.int q.1 :: rest))) : W p l e R s m args below meth c H locs 0 0 Q (F0 m pc ls (.int a1 :: .long a0 :: .ref (ad 2) :: rest)) :=
  call_V (q := (RX8, TX8, 8)) (n := 2) (As := [.long a0, .int a1]) (rv := some (.int q.1)) 2 8 F K E hA Z (c_X8_append (l := l) (D := D) (ad := ad) (cy := cy) (ee := ee) hf) ⟨wd802, wd801, wd803, wd804, wd472⟩ (by decide +kernel) rfl rfl hR rfl hl hst hd kk
theorem krX11_81_X8_drop {n : Nat}  {q : StT} (F : CallFix p m c cc nL s args (cw :: Gw) RX11) (K : va_K D vwCl (tyL cy) s) (E : EV ee A s s.heap) (hA : ∀ q, s.heap.size ≤ q → A q) (Z : ZG D (wC ad cy st) A s H locs) (hf : f_X8_drop n st = some q) (hR : 1 ≤ R.frames ∧ 20 ≤ R.locals) (hl : ls.size = nL) (hst : (rest.map fun v => v.category).sum ≤ 8) (hd : decode cc pc = .ok (.invokevirtual 81, 3)) (kk : ∀ (H1 : Heap) (locs1 : List Loc), ZG D (wC ad cy q) A s H1 locs1 → W p l e R s m args below meth c H1 locs1 0 0 Q (F0 m (pc + 3) ls (rest))) : W p l e R s m args below meth c H locs 0 0 Q (F0 m pc ls (.ref (ad 2) :: rest)) :=
  call_V (q := (RX8, TX8, 8)) (n := 0) (As := []) (rv := none) 2 8 F K E hA Z (c_X8_drop (l := l) (D := D) (ad := ad) (cy := cy) (ee := ee) hf) ⟨wd806, wd805, wd807, wd808, wd472⟩ (by decide +kernel) rfl rfl hR rfl hl hst hd kk
end
set_option maxRecDepth 100000 in
set_option maxHeartbeats 4000000 in
theorem c_X11_feed {l : Launch} {D : va_G} {ad : Nat → Nat} {cy : Nat → ClassId} {ee : EE} {n : Nat} {st : StT} {x1 : Int64} {x3 : Int32} {res : (Int32 × StT)} (hf : f_X11_feed n st x1 x3 = some res) : CT l yX11_feed cX11_feed 4 (some .int) 1 24 D cy ee (wC ad cy st) (wC ad cy res.2) [.ref (ad 0), .long x1, .int x3] (some (.int res.1)) := by
  refine CT.of (by decide +kernel) (Nat.le_of_ble_eq_true rfl) ?_
  intro p e s m args below meth c A F hr hk K E hA Z ls hl
  have hl : lv_has ls 4 [(0, .ref (ad 0)), (1, .long x1), (3, .int x3)] := hl
  have hx := F.1
  have hb := F.2.1
  unfold f_X11_feed at hf
  refine lv_iload_n hx hb dX11_feed_0 rfl (lv_at hl 2 rfl) ?_
  refine lv_if_lt (tgt := 10) hx hb dX11_feed_1 (by decide) (fun c1 => ?_) (fun c1 => ?_)
  · have hf := if_t c1 hf
    refine lv_bipush (v := -2) hx hb dX11_feed_10 (by decide) ?_
    have hf := Option.some.inj hf
    subst hf
    exact ret_i F hr hk Z dX11_feed_12
  have hf := if_f c1 hf
  refine lv_iload_n hx hb dX11_feed_4 rfl (lv_at hl 2 rfl) ?_
  refine lv_bipush (v := 8) hx hb dX11_feed_5 (by decide) ?_
  refine lv_icmp_le (tgt := 13) hx hb dX11_feed_7 (by decide) (fun c7 => ?_) (fun c7 => ?_)
  · have hf := if_t c7 hf
    refine lv_iload_n hx hb dX11_feed_13 rfl (lv_at hl 2 rfl) ?_
    refine lv_if_ne (tgt := 26) hx hb dX11_feed_14 (by decide) (fun c14 => ?_) (fun c14 => ?_)
    · have hf := if_f c14 hf
      refine lv_aload_n hx hb dX11_feed_26 rfl (lv_at hl 0 rfl) ?_
      refine grX11_16_0 F K Z dX11_feed_27 ?_
      refine lv_lload_n hx hb dX11_feed_30 rfl (lv_at hl 1 rfl) ?_
      refine lv_iload_n hx hb dX11_feed_31 rfl (lv_at hl 2 rfl) ?_
      obtain ⟨q32, h32, hf⟩ := bind_some hf
      refine krX11_84_X8_append F K E hA Z h32 ⟨Nat.le_of_ble_eq_true rfl, Nat.le_of_ble_eq_true rfl⟩ hl.1 (Nat.le_of_ble_eq_true rfl) dX11_feed_32 (fun H locs Z => ?_)
      have hf := Option.some.inj hf
      subst hf
      exact ret_i F hr hk Z dX11_feed_35
    have hf := if_t c14 hf
    refine lv_aload_n hx hb dX11_feed_17 rfl (lv_at hl 0 rfl) ?_
    refine grX11_16_0 F K Z dX11_feed_18 ?_
    obtain ⟨q21, h21, hf⟩ := bind_some hf
    refine krX11_81_X8_drop F K E hA Z h21 ⟨Nat.le_of_ble_eq_true rfl, Nat.le_of_ble_eq_true rfl⟩ hl.1 (Nat.le_of_ble_eq_true rfl) dX11_feed_21 (fun H locs Z => ?_)
    refine lv_iconst (v := 0) hx hb dX11_feed_24 (by decide) ?_
    have hf := Option.some.inj hf
    subst hf
    exact ret_i F hr hk Z dX11_feed_25
  have hf := if_f c7 hf
  refine lv_bipush (v := -2) hx hb dX11_feed_10 (by decide) ?_
  have hf := Option.some.inj hf
  subst hf
  exact ret_i F hr hk Z dX11_feed_12
def f_X11_read (n : Nat) (st : StT) : Option (Int32 × StT) := (f_X3_wholeFormula n st).bind fun q4 => (if (q4.2.1 10) = 0 then (some (q4.1, q4.2)) else (some (((-10 : Int32) - (q4.2.1 10)), q4.2)))
theorem wd809 : Cond.fieldLink RX11 34 "WorldProver" "reader" "LWorldProver$Reader;" ∈ Gw := gT2 (List.mem_of_getElem? (i := 138) rfl) rfl
theorem wd810 : Cond.methodLink RX11 88 yX3_wholeFormula ∈ Gw := gT2 (List.mem_of_getElem? (i := 183) rfl) rfl
theorem wd811 : Cond.code yX3_wholeFormula prog_5_method_2_code 2 (some .int) ∈ Gw := gT2 (List.mem_of_getElem? (i := 186) rfl) rfl
theorem wd812 : Cond.instanceMethod yX3_wholeFormula ∈ Gw := gT2 (List.mem_of_getElem? (i := 184) rfl) rfl
theorem wd813 : Cond.selects RX3 yX3_wholeFormula yX3_wholeFormula ∈ Gw := gT2 (List.mem_of_getElem? (i := 185) rfl) rfl
section
variable {p : Program} {l : Launch} {e : Env} {R : Room} {s : State} {m : MethodId} {args : Array Value} {below : List Frame} {meth : Method} {c : Code} {H : Heap} {locs : List Loc} {Q : State → Prop}
variable {cc : ByteArray} {nL pc : Nat} {ls : Array Slot} {rest : List Value} {D : va_G} {A : Nat → Prop} {cw : Cond} {ad : Nat → Nat} {cy : Nat → ClassId} {ee : EE} {st : StT} {own : String}
theorem grX11_34_0 (F : CallFix p m c cc nL s args (cw :: Gw) RX11) (K : va_K D vwCl (tyL cy) s) (Z : ZG D (wC ad cy st) A s H locs) (hd : decode cc pc = .ok (.getfield 34, 3)) (kk : W p l e R s m args below meth c H locs 0 0 Q (F0 m (pc + 3) ls (.ref (ad 11) :: rest))) : W p l e R s m args below meth c H locs 0 0 Q (F0 m pc ls (.ref (ad 0) :: rest)) :=
  va_get (D := D) (ci := 11) (C := RX11) (T := TX11) (N := 10) F.1 F.2.1 F.2.2.2.2 (fun w h => List.mem_cons_of_mem _ (inG_X11 w h)) F.2.2.2.1 K Z.1 0 rfl rfl 2 (by decide) (F.2.2.2.2 _ (List.mem_cons_of_mem _ wd809)) (fun _ h => h) rfl hd kk
theorem grX11_92_11 (F : CallFix p m c cc nL s args (cw :: Gw) RX11) (K : va_K D vwCl (tyL cy) s) (E : EV ee A s s.heap) (Z : ZG D (wC ad cy st) A s H locs) (hd : decode cc pc = .ok (.getfield 92, 3)) (kk : W p l e R s m args below meth c H locs 0 0 Q (F0 m (pc + 3) ls (.int (st.1 10) :: rest))) : W p l e R s m args below meth c H locs 0 0 Q (F0 m pc ls (.ref (ad 11) :: rest)) :=
  va_getN (D := D) (ci := 3) (C := RX3) (T := TX3) (N := 6) F.1 F.2.1 F.2.2.2.2 (fun w h => List.mem_cons_of_mem _ (inG_X3 w h)) F.2.2.2.1 K Z.1 11 rfl rfl 4 (by decide) (va_Nw.use rfl (E.1 _ (List.mem_of_getElem? (i := 1) rfl))) (fun _ h => h) rfl hd kk
theorem krX11_88_X3_wholeFormula {n : Nat}  {q : (Int32 × StT)} (F : CallFix p m c cc nL s args (cw :: Gw) RX11) (K : va_K D vwCl (tyL cy) s) (E : EV ee A s s.heap) (hA : ∀ q, s.heap.size ≤ q → A q) (Z : ZG D (wC ad cy st) A s H locs) (hf : f_X3_wholeFormula n st = some q) (hR : 270 ≤ R.frames ∧ 6721 ≤ R.locals) (hl : ls.size = nL) (hst : (rest.map fun v => v.category).sum ≤ 8) (hd : decode cc pc = .ok (.invokevirtual 88, 3)) (kk : ∀ (H1 : Heap) (locs1 : List Loc), ZG D (wC ad cy q.2) A s H1 locs1 → W p l e R s m args below meth c H1 locs1 0 0 Q (F0 m (pc + 3) ls (.int q.1 :: rest))) : W p l e R s m args below meth c H locs 0 0 Q (F0 m pc ls (.ref (ad 11) :: rest)) :=
  call_V (q := (RX3, TX3, 6)) (n := 0) (As := []) (rv := some (.int q.1)) 11 3 F K E hA Z (c_X3_wholeFormula (l := l) (D := D) (ad := ad) (cy := cy) (ee := ee) hf) ⟨wd811, wd810, wd812, wd813, wd623⟩ (by decide +kernel) rfl rfl hR rfl hl hst hd kk
end
set_option maxRecDepth 100000 in
set_option maxHeartbeats 4000000 in
theorem c_X11_read {l : Launch} {D : va_G} {ad : Nat → Nat} {cy : Nat → ClassId} {ee : EE} {n : Nat} {st : StT} {res : (Int32 × StT)} (hf : f_X11_read n st = some res) : CT l yX11_read cX11_read 2 (some .int) 270 6721 D cy ee (wC ad cy st) (wC ad cy res.2) [.ref (ad 0)] (some (.int res.1)) := by
  refine CT.of (by decide +kernel) (Nat.le_of_ble_eq_true rfl) ?_
  intro p e s m args below meth c A F hr hk K E hA Z ls hl
  have hl : lv_has ls 2 [(0, .ref (ad 0))] := hl
  have hx := F.1
  have hb := F.2.1
  unfold f_X11_read at hf
  refine lv_aload_n hx hb dX11_read_0 rfl (lv_at hl 0 rfl) ?_
  refine grX11_34_0 F K Z dX11_read_1 ?_
  obtain ⟨q4, h4, hf⟩ := bind_some hf
  refine krX11_88_X3_wholeFormula F K E hA Z h4 ⟨Nat.le_of_ble_eq_true rfl, Nat.le_of_ble_eq_true rfl⟩ hl.1 (Nat.le_of_ble_eq_true rfl) dX11_read_4 (fun H locs Z => ?_)
  refine lv_istore_n (lv' := [(1, .int q4.1), (0, .ref (ad 0))]) hx hb dX11_read_7 rfl hl (by decide) rfl (fun ls hl => ?_)
  refine lv_aload_n hx hb dX11_read_8 rfl (lv_at hl 1 rfl) ?_
  refine grX11_34_0 F K Z dX11_read_9 ?_
  refine grX11_92_11 F K E Z dX11_read_12 ?_
  refine lv_if_ne (tgt := 22) hx hb dX11_read_15 (by decide) (fun c15 => ?_) (fun c15 => ?_)
  · have hf := if_f c15 hf
    refine lv_bipush (v := -10) hx hb dX11_read_22 (by decide) ?_
    refine lv_aload_n hx hb dX11_read_24 rfl (lv_at hl 1 rfl) ?_
    refine grX11_34_0 F K Z dX11_read_25 ?_
    refine grX11_92_11 F K E Z dX11_read_28 ?_
    refine lv_isub hx hb dX11_read_31 ?_
    have hf := Option.some.inj hf
    subst hf
    exact ret_i F hr hk Z dX11_read_32
  have hf := if_t c15 hf
  refine lv_iload_n hx hb dX11_read_18 rfl (lv_at hl 0 rfl) ?_
  refine lv_goto (tgt := 32) hx hb dX11_read_19 (by decide) ?_
  have hf := Option.some.inj hf
  subst hf
  exact ret_i F hr hk Z dX11_read_32
def f_X11_place (n : Nat) (st : StT) : Option (Int32 × StT) := some ((st.1 11), st)
section
variable {p : Program} {l : Launch} {e : Env} {R : Room} {s : State} {m : MethodId} {args : Array Value} {below : List Frame} {meth : Method} {c : Code} {H : Heap} {locs : List Loc} {Q : State → Prop}
variable {cc : ByteArray} {nL pc : Nat} {ls : Array Slot} {rest : List Value} {D : va_G} {A : Nat → Prop} {cw : Cond} {ad : Nat → Nat} {cy : Nat → ClassId} {ee : EE} {st : StT} {own : String}
theorem grX11_96_11 (F : CallFix p m c cc nL s args (cw :: Gw) RX11) (K : va_K D vwCl (tyL cy) s) (E : EV ee A s s.heap) (Z : ZG D (wC ad cy st) A s H locs) (hd : decode cc pc = .ok (.getfield 96, 3)) (kk : W p l e R s m args below meth c H locs 0 0 Q (F0 m (pc + 3) ls (.int (st.1 11) :: rest))) : W p l e R s m args below meth c H locs 0 0 Q (F0 m pc ls (.ref (ad 11) :: rest)) :=
  va_getN (D := D) (ci := 3) (C := RX3) (T := TX3) (N := 6) F.1 F.2.1 F.2.2.2.2 (fun w h => List.mem_cons_of_mem _ (inG_X3 w h)) F.2.2.2.1 K Z.1 11 rfl rfl 5 (by decide) (va_Nw.use rfl (E.1 _ (List.mem_of_getElem? (i := 2) rfl))) (fun _ h => h) rfl hd kk
end
set_option maxRecDepth 100000 in
set_option maxHeartbeats 4000000 in
theorem c_X11_place {l : Launch} {D : va_G} {ad : Nat → Nat} {cy : Nat → ClassId} {ee : EE} {n : Nat} {st : StT} {res : (Int32 × StT)} (hf : f_X11_place n st = some res) : CT l yX11_place cX11_place 1 (some .int) 0 0 D cy ee (wC ad cy st) (wC ad cy res.2) [.ref (ad 0)] (some (.int res.1)) := by
  refine CT.of (by decide +kernel) (Nat.le_of_ble_eq_true rfl) ?_
  intro p e s m args below meth c A F hr hk K E hA Z ls hl
  have hl : lv_has ls 1 [(0, .ref (ad 0))] := hl
  have hx := F.1
  have hb := F.2.1
  unfold f_X11_place at hf
  refine lv_aload_n hx hb dX11_place_0 rfl (lv_at hl 0 rfl) ?_
  refine grX11_34_0 F K Z dX11_place_1 ?_
  refine grX11_96_11 F K E Z dX11_place_4 ?_
  have hf := Option.some.inj hf
  subst hf
  exact ret_i F hr hk Z dX11_place_7
def f_X11_count (n : Nat) (st : StT) (x1 : Int32) : Option (Int32 × StT) := if x1 = 0 then ((f_X1_many_F0 n st).bind fun q36 => (some (q36.1, q36.2))) else (if x1 = 1 then ((f_X1_variables_F0 n st).bind fun q44 => (some (q44.1, q44.2))) else (if x1 = 2 then (some ((st.1 28), st)) else (if x1 = 3 then ((f_X9_many n st).bind fun q57 => (some (q57.1, q57.2))) else (some ((-2 : Int32), st)))))
theorem wd814 : Cond.fieldLink RX11 25 "WorldProver" "formulas" "LWorldProver$Formulas;" ∈ Gw := gT2 (List.mem_of_getElem? (i := 137) rfl) rfl
theorem wd815 : Cond.fieldLink RX11 105 "WorldProver" "givenMany" "I" ∈ Gw := gT2 (List.mem_of_getElem? (i := 145) rfl) rfl
theorem wd816 : Cond.fieldLink RX11 77 "WorldProver" "worlds" "LWorldProver$Worlds;" ∈ Gw := gT2 (List.mem_of_getElem? (i := 143) rfl) rfl
theorem wd817 : Cond.methodLink RX11 99 yX1_many ∈ Gw := gT3 (List.mem_of_getElem? (i := 157) rfl) rfl
theorem wd818 : Cond.code yX1_many prog_3_method_2_code 1 (some .int) ∈ Gw := gT3 (List.mem_of_getElem? (i := 160) rfl) rfl
theorem wd819 : Cond.instanceMethod yX1_many ∈ Gw := gT3 (List.mem_of_getElem? (i := 158) rfl) rfl
theorem wd820 : Cond.selects RX1 yX1_many yX1_many ∈ Gw := gT3 (List.mem_of_getElem? (i := 159) rfl) rfl
theorem wd821 : Cond.methodLink RX11 102 yX1_variables ∈ Gw := gT3 (List.mem_of_getElem? (i := 161) rfl) rfl
theorem wd822 : Cond.code yX1_variables prog_3_method_3_code 1 (some .int) ∈ Gw := gT3 (List.mem_of_getElem? (i := 164) rfl) rfl
theorem wd823 : Cond.instanceMethod yX1_variables ∈ Gw := gT3 (List.mem_of_getElem? (i := 162) rfl) rfl
theorem wd824 : Cond.selects RX1 yX1_variables yX1_variables ∈ Gw := gT3 (List.mem_of_getElem? (i := 163) rfl) rfl
theorem wd825 : Cond.methodLink RX11 108 yX9_many ∈ Gw := gT3 (List.mem_of_getElem? (i := 165) rfl) rfl
theorem wd826 : Cond.code yX9_many prog_11_method_2_code 1 (some .int) ∈ Gw := gT3 (List.mem_of_getElem? (i := 168) rfl) rfl
theorem wd827 : Cond.instanceMethod yX9_many ∈ Gw := gT3 (List.mem_of_getElem? (i := 166) rfl) rfl
theorem wd828 : Cond.selects RX9 yX9_many yX9_many ∈ Gw := gT3 (List.mem_of_getElem? (i := 167) rfl) rfl
section
variable {p : Program} {l : Launch} {e : Env} {R : Room} {s : State} {m : MethodId} {args : Array Value} {below : List Frame} {meth : Method} {c : Code} {H : Heap} {locs : List Loc} {Q : State → Prop}
variable {cc : ByteArray} {nL pc : Nat} {ls : Array Slot} {rest : List Value} {D : va_G} {A : Nat → Prop} {cw : Cond} {ad : Nat → Nat} {cy : Nat → ClassId} {ee : EE} {st : StT} {own : String}
theorem grX11_25_0 (F : CallFix p m c cc nL s args (cw :: Gw) RX11) (K : va_K D vwCl (tyL cy) s) (Z : ZG D (wC ad cy st) A s H locs) (hd : decode cc pc = .ok (.getfield 25, 3)) (kk : W p l e R s m args below meth c H locs 0 0 Q (F0 m (pc + 3) ls (.ref (ad 4) :: rest))) : W p l e R s m args below meth c H locs 0 0 Q (F0 m pc ls (.ref (ad 0) :: rest)) :=
  va_get (D := D) (ci := 11) (C := RX11) (T := TX11) (N := 10) F.1 F.2.1 F.2.2.2.2 (fun w h => List.mem_cons_of_mem _ (inG_X11 w h)) F.2.2.2.1 K Z.1 0 rfl rfl 1 (by decide) (F.2.2.2.2 _ (List.mem_cons_of_mem _ wd814)) (fun _ h => h) rfl hd kk
theorem grX11_105_0 (F : CallFix p m c cc nL s args (cw :: Gw) RX11) (K : va_K D vwCl (tyL cy) s) (Z : ZG D (wC ad cy st) A s H locs) (hd : decode cc pc = .ok (.getfield 105, 3)) (kk : W p l e R s m args below meth c H locs 0 0 Q (F0 m (pc + 3) ls (.int (st.1 28) :: rest))) : W p l e R s m args below meth c H locs 0 0 Q (F0 m pc ls (.ref (ad 0) :: rest)) :=
  va_get (D := D) (ci := 11) (C := RX11) (T := TX11) (N := 10) F.1 F.2.1 F.2.2.2.2 (fun w h => List.mem_cons_of_mem _ (inG_X11 w h)) F.2.2.2.1 K Z.1 0 rfl rfl 9 (by decide) (F.2.2.2.2 _ (List.mem_cons_of_mem _ wd815)) (fun _ h => h) rfl hd kk
theorem grX11_77_0 (F : CallFix p m c cc nL s args (cw :: Gw) RX11) (K : va_K D vwCl (tyL cy) s) (Z : ZG D (wC ad cy st) A s H locs) (hd : decode cc pc = .ok (.getfield 77, 3)) (kk : W p l e R s m args below meth c H locs 0 0 Q (F0 m (pc + 3) ls (.ref (ad 58) :: rest))) : W p l e R s m args below meth c H locs 0 0 Q (F0 m pc ls (.ref (ad 0) :: rest)) :=
  va_get (D := D) (ci := 11) (C := RX11) (T := TX11) (N := 10) F.1 F.2.1 F.2.2.2.2 (fun w h => List.mem_cons_of_mem _ (inG_X11 w h)) F.2.2.2.1 K Z.1 0 rfl rfl 7 (by decide) (F.2.2.2.2 _ (List.mem_cons_of_mem _ wd816)) (fun _ h => h) rfl hd kk
theorem krX11_99_X1_many_F0 {n : Nat}  {q : (Int32 × StT)} (F : CallFix p m c cc nL s args (cw :: Gw) RX11) (K : va_K D vwCl (tyL cy) s) (E : EV ee A s s.heap) (hA : ∀ q, s.heap.size ≤ q → A q) (Z : ZG D (wC ad cy st) A s H locs) (hf : f_X1_many_F0 n st = some q) (hR : 1 ≤ R.frames ∧ 20 ≤ R.locals) (hl : ls.size = nL) (hst : (rest.map fun v => v.category).sum ≤ 8) (hd : decode cc pc = .ok (.invokevirtual 99, 3)) (kk : ∀ (H1 : Heap) (locs1 : List Loc), ZG D (wC ad cy q.2) A s H1 locs1 → W p l e R s m args below meth c H1 locs1 0 0 Q (F0 m (pc + 3) ls (.int q.1 :: rest))) : W p l e R s m args below meth c H locs 0 0 Q (F0 m pc ls (.ref (ad 4) :: rest)) :=
  call_V (q := (RX1, TX1, 9)) (n := 0) (As := []) (rv := some (.int q.1)) 4 1 F K E hA Z (c_X1_many_F0 (l := l) (D := D) (ad := ad) (cy := cy) (ee := ee) hf) ⟨wd818, wd817, wd819, wd820, wd17⟩ (by decide +kernel) rfl rfl hR rfl hl hst hd kk
theorem krX11_102_X1_variables_F0 {n : Nat}  {q : (Int32 × StT)} (F : CallFix p m c cc nL s args (cw :: Gw) RX11) (K : va_K D vwCl (tyL cy) s) (E : EV ee A s s.heap) (hA : ∀ q, s.heap.size ≤ q → A q) (Z : ZG D (wC ad cy st) A s H locs) (hf : f_X1_variables_F0 n st = some q) (hR : 1 ≤ R.frames ∧ 20 ≤ R.locals) (hl : ls.size = nL) (hst : (rest.map fun v => v.category).sum ≤ 8) (hd : decode cc pc = .ok (.invokevirtual 102, 3)) (kk : ∀ (H1 : Heap) (locs1 : List Loc), ZG D (wC ad cy q.2) A s H1 locs1 → W p l e R s m args below meth c H1 locs1 0 0 Q (F0 m (pc + 3) ls (.int q.1 :: rest))) : W p l e R s m args below meth c H locs 0 0 Q (F0 m pc ls (.ref (ad 4) :: rest)) :=
  call_V (q := (RX1, TX1, 9)) (n := 0) (As := []) (rv := some (.int q.1)) 4 1 F K E hA Z (c_X1_variables_F0 (l := l) (D := D) (ad := ad) (cy := cy) (ee := ee) hf) ⟨wd822, wd821, wd823, wd824, wd17⟩ (by decide +kernel) rfl rfl hR rfl hl hst hd kk
theorem krX11_108_X9_many {n : Nat}  {q : (Int32 × StT)} (F : CallFix p m c cc nL s args (cw :: Gw) RX11) (K : va_K D vwCl (tyL cy) s) (E : EV ee A s s.heap) (hA : ∀ q, s.heap.size ≤ q → A q) (Z : ZG D (wC ad cy st) A s H locs) (hf : f_X9_many n st = some q) (hR : 1 ≤ R.frames ∧ 20 ≤ R.locals) (hl : ls.size = nL) (hst : (rest.map fun v => v.category).sum ≤ 8) (hd : decode cc pc = .ok (.invokevirtual 108, 3)) (kk : ∀ (H1 : Heap) (locs1 : List Loc), ZG D (wC ad cy q.2) A s H1 locs1 → W p l e R s m args below meth c H1 locs1 0 0 Q (F0 m (pc + 3) ls (.int q.1 :: rest))) : W p l e R s m args below meth c H locs 0 0 Q (F0 m pc ls (.ref (ad 58) :: rest)) :=
  call_V (q := (RX9, TX9, 6)) (n := 0) (As := []) (rv := some (.int q.1)) 58 9 F K E hA Z (c_X9_many (l := l) (D := D) (ad := ad) (cy := cy) (ee := ee) hf) ⟨wd826, wd825, wd827, wd828, wd319⟩ (by decide +kernel) rfl rfl hR rfl hl hst hd kk
end
set_option maxRecDepth 100000 in
set_option maxHeartbeats 4000000 in
theorem c_X11_count {l : Launch} {D : va_G} {ad : Nat → Nat} {cy : Nat → ClassId} {ee : EE} {n : Nat} {st : StT} {x1 : Int32} {res : (Int32 × StT)} (hf : f_X11_count n st x1 = some res) : CT l yX11_count cX11_count 2 (some .int) 1 20 D cy ee (wC ad cy st) (wC ad cy res.2) [.ref (ad 0), .int x1] (some (.int res.1)) := by
  refine CT.of (by decide +kernel) (Nat.le_of_ble_eq_true rfl) ?_
  intro p e s m args below meth c A F hr hk K E hA Z ls hl
  have hl : lv_has ls 2 [(0, .ref (ad 0)), (1, .int x1)] := hl
  have hx := F.1
  have hb := F.2.1
  unfold f_X11_count at hf
  refine lv_iload_n hx hb dX11_count_0 rfl (lv_at hl 1 rfl) ?_
  by_cases c1_0 : x1 = 0
  · have hf := if_t c1_0 hf
    refine lv_tableIn (tgt := 32) hx hb dX11_count_1 (by rw [c1_0] <;> decide) (by rw [c1_0] <;> decide) (by rw [c1_0] <;> rfl) (by decide) ?_
    refine lv_aload_n hx hb dX11_count_32 rfl (lv_at hl 0 rfl) ?_
    refine grX11_25_0 F K Z dX11_count_33 ?_
    obtain ⟨q36, h36, hf⟩ := bind_some hf
    refine krX11_99_X1_many_F0 F K E hA Z h36 ⟨Nat.le_of_ble_eq_true rfl, Nat.le_of_ble_eq_true rfl⟩ hl.1 (Nat.le_of_ble_eq_true rfl) dX11_count_36 (fun H locs Z => ?_)
    have hf := Option.some.inj hf
    subst hf
    exact ret_i F hr hk Z dX11_count_39
  have hf := if_f c1_0 hf
  by_cases c1_1 : x1 = 1
  · have hf := if_t c1_1 hf
    refine lv_tableIn (tgt := 40) hx hb dX11_count_1 (by rw [c1_1] <;> decide) (by rw [c1_1] <;> decide) (by rw [c1_1] <;> rfl) (by decide) ?_
    refine lv_aload_n hx hb dX11_count_40 rfl (lv_at hl 0 rfl) ?_
    refine grX11_25_0 F K Z dX11_count_41 ?_
    obtain ⟨q44, h44, hf⟩ := bind_some hf
    refine krX11_102_X1_variables_F0 F K E hA Z h44 ⟨Nat.le_of_ble_eq_true rfl, Nat.le_of_ble_eq_true rfl⟩ hl.1 (Nat.le_of_ble_eq_true rfl) dX11_count_44 (fun H locs Z => ?_)
    have hf := Option.some.inj hf
    subst hf
    exact ret_i F hr hk Z dX11_count_47
  have hf := if_f c1_1 hf
  by_cases c1_2 : x1 = 2
  · have hf := if_t c1_2 hf
    refine lv_tableIn (tgt := 48) hx hb dX11_count_1 (by rw [c1_2] <;> decide) (by rw [c1_2] <;> decide) (by rw [c1_2] <;> rfl) (by decide) ?_
    refine lv_aload_n hx hb dX11_count_48 rfl (lv_at hl 0 rfl) ?_
    refine grX11_105_0 F K Z dX11_count_49 ?_
    have hf := Option.some.inj hf
    subst hf
    exact ret_i F hr hk Z dX11_count_52
  have hf := if_f c1_2 hf
  by_cases c1_3 : x1 = 3
  · have hf := if_t c1_3 hf
    refine lv_tableIn (tgt := 53) hx hb dX11_count_1 (by rw [c1_3] <;> decide) (by rw [c1_3] <;> decide) (by rw [c1_3] <;> rfl) (by decide) ?_
    refine lv_aload_n hx hb dX11_count_53 rfl (lv_at hl 0 rfl) ?_
    refine grX11_77_0 F K Z dX11_count_54 ?_
    obtain ⟨q57, h57, hf⟩ := bind_some hf
    refine krX11_108_X9_many F K E hA Z h57 ⟨Nat.le_of_ble_eq_true rfl, Nat.le_of_ble_eq_true rfl⟩ hl.1 (Nat.le_of_ble_eq_true rfl) dX11_count_57 (fun H locs Z => ?_)
    have hf := Option.some.inj hf
    subst hf
    exact ret_i F hr hk Z dX11_count_60
  have hf := if_f c1_3 hf
  refine sw_tab (tgt := 61) hx hb dX11_count_1 (sw_any (fun j h1 h2 hj => ?_)) (by decide) ?_
  · rcases (show j = 0 ∨ j = 1 ∨ j = 2 ∨ j = 3 by omega) with rfl | rfl | rfl | rfl
    · exact absurd hj (lv_neT c1_0 (by decide))
    · exact absurd hj (lv_neT c1_1 (by decide))
    · exact absurd hj (lv_neT c1_2 (by decide))
    · exact absurd hj (lv_neT c1_3 (by decide))
  refine lv_bipush (v := -2) hx hb dX11_count_61 (by decide) ?_
  have hf := Option.some.inj hf
  subst hf
  exact ret_i F hr hk Z dX11_count_63
def f_X11_formula (n : Nat) (st : StT) (x1 : Int32) (x2 : Int32) : Option (Int32 × StT) := (f_X1_has_F0 n st x1).bind fun q5 => (if q5.1 = 0 then (some ((-1 : Int32), q5.2)) else (if x2 = 0 then ((f_X1_kindOf_F0 n q5.2 x1).bind fun q45 => (some (q45.1, q45.2))) else (if x2 = 1 then ((f_X1_firstOf_F0 n q5.2 x1).bind fun q54 => (some (q54.1, q54.2))) else (if x2 = 2 then ((f_X1_secondOf_F0 n q5.2 x1).bind fun q63 => (some (q63.1, q63.2))) else (some ((-2 : Int32), q5.2))))))
theorem wd829 : Cond.methodLink RX11 113 yX1_kindOf ∈ Gw := gT3 (List.mem_of_getElem? (i := 177) rfl) rfl
theorem wd830 : Cond.methodLink RX11 117 yX1_firstOf ∈ Gw := gT3 (List.mem_of_getElem? (i := 182) rfl) rfl
theorem wd831 : Cond.methodLink RX11 120 yX1_secondOf ∈ Gw := gT3 (List.mem_of_getElem? (i := 186) rfl) rfl
theorem wd832 : Cond.methodLink RX11 109 yX1_has ∈ Gw := gT3 (List.mem_of_getElem? (i := 173) rfl) rfl
section
variable {p : Program} {l : Launch} {e : Env} {R : Room} {s : State} {m : MethodId} {args : Array Value} {below : List Frame} {meth : Method} {c : Code} {H : Heap} {locs : List Loc} {Q : State → Prop}
variable {cc : ByteArray} {nL pc : Nat} {ls : Array Slot} {rest : List Value} {D : va_G} {A : Nat → Prop} {cw : Cond} {ad : Nat → Nat} {cy : Nat → ClassId} {ee : EE} {st : StT} {own : String}
theorem krX11_113_X1_kindOf_F0 {n : Nat} {a0 : Int32} {q : (Int32 × StT)} (F : CallFix p m c cc nL s args (cw :: Gw) RX11) (K : va_K D vwCl (tyL cy) s) (E : EV ee A s s.heap) (hA : ∀ q, s.heap.size ≤ q → A q) (Z : ZG D (wC ad cy st) A s H locs) (hf : f_X1_kindOf_F0 n st a0 = some q) (hR : 2 ≤ R.frames ∧ 42 ≤ R.locals) (hl : ls.size = nL) (hst : (rest.map fun v => v.category).sum ≤ 8) (hd : decode cc pc = .ok (.invokevirtual 113, 3)) (kk : ∀ (H1 : Heap) (locs1 : List Loc), ZG D (wC ad cy q.2) A s H1 locs1 → W p l e R s m args below meth c H1 locs1 0 0 Q (F0 m (pc + 3) ls (.int q.1 :: rest))) : W p l e R s m args below meth c H locs 0 0 Q (F0 m pc ls (.int a0 :: .ref (ad 4) :: rest)) :=
  call_V (q := (RX1, TX1, 9)) (n := 1) (As := [.int a0]) (rv := some (.int q.1)) 4 1 F K E hA Z (c_X1_kindOf_F0 (l := l) (D := D) (ad := ad) (cy := cy) (ee := ee) hf) ⟨wd147, wd829, wd148, wd149, wd17⟩ (by decide +kernel) rfl rfl hR rfl hl hst hd kk
theorem krX11_117_X1_firstOf_F0 {n : Nat} {a0 : Int32} {q : (Int32 × StT)} (F : CallFix p m c cc nL s args (cw :: Gw) RX11) (K : va_K D vwCl (tyL cy) s) (E : EV ee A s s.heap) (hA : ∀ q, s.heap.size ≤ q → A q) (Z : ZG D (wC ad cy st) A s H locs) (hf : f_X1_firstOf_F0 n st a0 = some q) (hR : 2 ≤ R.frames ∧ 42 ≤ R.locals) (hl : ls.size = nL) (hst : (rest.map fun v => v.category).sum ≤ 8) (hd : decode cc pc = .ok (.invokevirtual 117, 3)) (kk : ∀ (H1 : Heap) (locs1 : List Loc), ZG D (wC ad cy q.2) A s H1 locs1 → W p l e R s m args below meth c H1 locs1 0 0 Q (F0 m (pc + 3) ls (.int q.1 :: rest))) : W p l e R s m args below meth c H locs 0 0 Q (F0 m pc ls (.int a0 :: .ref (ad 4) :: rest)) :=
  call_V (q := (RX1, TX1, 9)) (n := 1) (As := [.int a0]) (rv := some (.int q.1)) 4 1 F K E hA Z (c_X1_firstOf_F0 (l := l) (D := D) (ad := ad) (cy := cy) (ee := ee) hf) ⟨wd143, wd830, wd144, wd145, wd17⟩ (by decide +kernel) rfl rfl hR rfl hl hst hd kk
theorem krX11_120_X1_secondOf_F0 {n : Nat} {a0 : Int32} {q : (Int32 × StT)} (F : CallFix p m c cc nL s args (cw :: Gw) RX11) (K : va_K D vwCl (tyL cy) s) (E : EV ee A s s.heap) (hA : ∀ q, s.heap.size ≤ q → A q) (Z : ZG D (wC ad cy st) A s H locs) (hf : f_X1_secondOf_F0 n st a0 = some q) (hR : 2 ≤ R.frames ∧ 42 ≤ R.locals) (hl : ls.size = nL) (hst : (rest.map fun v => v.category).sum ≤ 8) (hd : decode cc pc = .ok (.invokevirtual 120, 3)) (kk : ∀ (H1 : Heap) (locs1 : List Loc), ZG D (wC ad cy q.2) A s H1 locs1 → W p l e R s m args below meth c H1 locs1 0 0 Q (F0 m (pc + 3) ls (.int q.1 :: rest))) : W p l e R s m args below meth c H locs 0 0 Q (F0 m pc ls (.int a0 :: .ref (ad 4) :: rest)) :=
  call_V (q := (RX1, TX1, 9)) (n := 1) (As := [.int a0]) (rv := some (.int q.1)) 4 1 F K E hA Z (c_X1_secondOf_F0 (l := l) (D := D) (ad := ad) (cy := cy) (ee := ee) hf) ⟨wd199, wd831, wd200, wd201, wd17⟩ (by decide +kernel) rfl rfl hR rfl hl hst hd kk
theorem krX11_109_X1_has_F0 {n : Nat} {a0 : Int32} {q : (Int32 × StT)} (F : CallFix p m c cc nL s args (cw :: Gw) RX11) (K : va_K D vwCl (tyL cy) s) (E : EV ee A s s.heap) (hA : ∀ q, s.heap.size ≤ q → A q) (Z : ZG D (wC ad cy st) A s H locs) (hf : f_X1_has_F0 n st a0 = some q) (hR : 1 ≤ R.frames ∧ 21 ≤ R.locals) (hl : ls.size = nL) (hst : (rest.map fun v => v.category).sum ≤ 8) (hd : decode cc pc = .ok (.invokevirtual 109, 3)) (kk : ∀ (H1 : Heap) (locs1 : List Loc), ZG D (wC ad cy q.2) A s H1 locs1 → W p l e R s m args below meth c H1 locs1 0 0 Q (F0 m (pc + 3) ls (.int q.1 :: rest))) : W p l e R s m args below meth c H locs 0 0 Q (F0 m pc ls (.int a0 :: .ref (ad 4) :: rest)) :=
  call_V (q := (RX1, TX1, 9)) (n := 1) (As := [.int a0]) (rv := some (.int q.1)) 4 1 F K E hA Z (c_X1_has_F0 (l := l) (D := D) (ad := ad) (cy := cy) (ee := ee) hf) ⟨wd14, wd832, wd15, wd16, wd17⟩ (by decide +kernel) rfl rfl hR rfl hl hst hd kk
end
set_option maxRecDepth 100000 in
set_option maxHeartbeats 4000000 in
theorem c_X11_formula {l : Launch} {D : va_G} {ad : Nat → Nat} {cy : Nat → ClassId} {ee : EE} {n : Nat} {st : StT} {x1 : Int32} {x2 : Int32} {res : (Int32 × StT)} (hf : f_X11_formula n st x1 x2 = some res) : CT l yX11_formula cX11_formula 3 (some .int) 2 42 D cy ee (wC ad cy st) (wC ad cy res.2) [.ref (ad 0), .int x1, .int x2] (some (.int res.1)) := by
  refine CT.of (by decide +kernel) (Nat.le_of_ble_eq_true rfl) ?_
  intro p e s m args below meth c A F hr hk K E hA Z ls hl
  have hl : lv_has ls 3 [(0, .ref (ad 0)), (1, .int x1), (2, .int x2)] := hl
  have hx := F.1
  have hb := F.2.1
  unfold f_X11_formula at hf
  refine lv_aload_n hx hb dX11_formula_0 rfl (lv_at hl 0 rfl) ?_
  refine grX11_25_0 F K Z dX11_formula_1 ?_
  refine lv_iload_n hx hb dX11_formula_4 rfl (lv_at hl 1 rfl) ?_
  obtain ⟨q5, h5, hf⟩ := bind_some hf
  refine krX11_109_X1_has_F0 F K E hA Z h5 ⟨Nat.le_of_ble_eq_true rfl, Nat.le_of_ble_eq_true rfl⟩ hl.1 (Nat.le_of_ble_eq_true rfl) dX11_formula_5 (fun H locs Z => ?_)
  refine lv_if_ne (tgt := 13) hx hb dX11_formula_8 (by decide) (fun c8 => ?_) (fun c8 => ?_)
  · have hf := if_f c8 hf
    refine lv_iload_n hx hb dX11_formula_13 rfl (lv_at hl 2 rfl) ?_
    by_cases c14_0 : x2 = 0
    · have hf := if_t c14_0 hf
      refine lv_tableIn (tgt := 40) hx hb dX11_formula_14 (by rw [c14_0] <;> decide) (by rw [c14_0] <;> decide) (by rw [c14_0] <;> rfl) (by decide) ?_
      refine lv_aload_n hx hb dX11_formula_40 rfl (lv_at hl 0 rfl) ?_
      refine grX11_25_0 F K Z dX11_formula_41 ?_
      refine lv_iload_n hx hb dX11_formula_44 rfl (lv_at hl 1 rfl) ?_
      obtain ⟨q45, h45, hf⟩ := bind_some hf
      refine krX11_113_X1_kindOf_F0 F K E hA Z h45 ⟨Nat.le_of_ble_eq_true rfl, Nat.le_of_ble_eq_true rfl⟩ hl.1 (Nat.le_of_ble_eq_true rfl) dX11_formula_45 (fun H locs Z => ?_)
      have hf := Option.some.inj hf
      subst hf
      exact ret_i F hr hk Z dX11_formula_48
    have hf := if_f c14_0 hf
    by_cases c14_1 : x2 = 1
    · have hf := if_t c14_1 hf
      refine lv_tableIn (tgt := 49) hx hb dX11_formula_14 (by rw [c14_1] <;> decide) (by rw [c14_1] <;> decide) (by rw [c14_1] <;> rfl) (by decide) ?_
      refine lv_aload_n hx hb dX11_formula_49 rfl (lv_at hl 0 rfl) ?_
      refine grX11_25_0 F K Z dX11_formula_50 ?_
      refine lv_iload_n hx hb dX11_formula_53 rfl (lv_at hl 1 rfl) ?_
      obtain ⟨q54, h54, hf⟩ := bind_some hf
      refine krX11_117_X1_firstOf_F0 F K E hA Z h54 ⟨Nat.le_of_ble_eq_true rfl, Nat.le_of_ble_eq_true rfl⟩ hl.1 (Nat.le_of_ble_eq_true rfl) dX11_formula_54 (fun H locs Z => ?_)
      have hf := Option.some.inj hf
      subst hf
      exact ret_i F hr hk Z dX11_formula_57
    have hf := if_f c14_1 hf
    by_cases c14_2 : x2 = 2
    · have hf := if_t c14_2 hf
      refine lv_tableIn (tgt := 58) hx hb dX11_formula_14 (by rw [c14_2] <;> decide) (by rw [c14_2] <;> decide) (by rw [c14_2] <;> rfl) (by decide) ?_
      refine lv_aload_n hx hb dX11_formula_58 rfl (lv_at hl 0 rfl) ?_
      refine grX11_25_0 F K Z dX11_formula_59 ?_
      refine lv_iload_n hx hb dX11_formula_62 rfl (lv_at hl 1 rfl) ?_
      obtain ⟨q63, h63, hf⟩ := bind_some hf
      refine krX11_120_X1_secondOf_F0 F K E hA Z h63 ⟨Nat.le_of_ble_eq_true rfl, Nat.le_of_ble_eq_true rfl⟩ hl.1 (Nat.le_of_ble_eq_true rfl) dX11_formula_63 (fun H locs Z => ?_)
      have hf := Option.some.inj hf
      subst hf
      exact ret_i F hr hk Z dX11_formula_66
    have hf := if_f c14_2 hf
    refine sw_tab (tgt := 67) hx hb dX11_formula_14 (sw_any (fun j h1 h2 hj => ?_)) (by decide) ?_
    · rcases (show j = 0 ∨ j = 1 ∨ j = 2 by omega) with rfl | rfl | rfl
      · exact absurd hj (lv_neT c14_0 (by decide))
      · exact absurd hj (lv_neT c14_1 (by decide))
      · exact absurd hj (lv_neT c14_2 (by decide))
    refine lv_bipush (v := -2) hx hb dX11_formula_67 (by decide) ?_
    have hf := Option.some.inj hf
    subst hf
    exact ret_i F hr hk Z dX11_formula_69
  have hf := if_t c8 hf
  refine lv_iconst (v := -1) hx hb dX11_formula_11 (by decide) ?_
  have hf := Option.some.inj hf
  subst hf
  exact ret_i F hr hk Z dX11_formula_12
def f_X11_make_42 (n : Nat) (st : StT) (x1 : Int32) (x2 : Int32) (x3 : Int32) : Option (Int32 × StT) := (f_X1_joined_F0 n st x1 x2 x3).bind fun q49 => (if 0 ≤ q49.1 then (some (q49.1, q49.2)) else (some ((-4 : Int32), q49.2)))
def f_X11_make (n : Nat) (st : StT) (x1 : Int32) (x2 : Int32) (x3 : Int32) : Option (Int32 × StT) := (f_X1_has_F0 n st x2).bind fun q5 => (if q5.1 = 0 then (some ((-1 : Int32), q5.2)) else ((f_X1_has_F0 n q5.2 x3).bind fun q16 => (if q16.1 = 0 then (some ((-1 : Int32), q16.2)) else (if x1 = (3 : Int32) then (f_X11_make_42 n q16.2 x1 x2 x3) else (if x1 = (4 : Int32) then (f_X11_make_42 n q16.2 x1 x2 x3) else (if x1 = (5 : Int32) then (f_X11_make_42 n q16.2 x1 x2 x3) else (some ((-2 : Int32), q16.2))))))))
theorem wd833 : Cond.methodLink RX11 123 yX1_joined ∈ Gw := gT3 (List.mem_of_getElem? (i := 194) rfl) rfl
section
variable {p : Program} {l : Launch} {e : Env} {R : Room} {s : State} {m : MethodId} {args : Array Value} {below : List Frame} {meth : Method} {c : Code} {H : Heap} {locs : List Loc} {Q : State → Prop}
variable {cc : ByteArray} {nL pc : Nat} {ls : Array Slot} {rest : List Value} {D : va_G} {A : Nat → Prop} {cw : Cond} {ad : Nat → Nat} {cy : Nat → ClassId} {ee : EE} {st : StT} {own : String}
theorem krX11_123_X1_joined_F0 {n : Nat} {a0 : Int32} {a1 : Int32} {a2 : Int32} {q : (Int32 × StT)} (F : CallFix p m c cc nL s args (cw :: Gw) RX11) (K : va_K D vwCl (tyL cy) s) (E : EV ee A s s.heap) (hA : ∀ q, s.heap.size ≤ q → A q) (Z : ZG D (wC ad cy st) A s H locs) (hf : f_X1_joined_F0 n st a0 a1 a2 = some q) (hR : 2 ≤ R.frames ∧ 51 ≤ R.locals) (hl : ls.size = nL) (hst : (rest.map fun v => v.category).sum ≤ 8) (hd : decode cc pc = .ok (.invokevirtual 123, 3)) (kk : ∀ (H1 : Heap) (locs1 : List Loc), ZG D (wC ad cy q.2) A s H1 locs1 → W p l e R s m args below meth c H1 locs1 0 0 Q (F0 m (pc + 3) ls (.int q.1 :: rest))) : W p l e R s m args below meth c H locs 0 0 Q (F0 m pc ls (.int a2 :: .int a1 :: .int a0 :: .ref (ad 4) :: rest)) :=
  call_V (q := (RX1, TX1, 9)) (n := 3) (As := [.int a0, .int a1, .int a2]) (rv := some (.int q.1)) 4 1 F K E hA Z (c_X1_joined_F0 (l := l) (D := D) (ad := ad) (cy := cy) (ee := ee) hf) ⟨wd195, wd833, wd196, wd197, wd17⟩ (by decide +kernel) rfl rfl hR rfl hl hst hd kk
end
set_option maxRecDepth 100000 in
set_option maxHeartbeats 4000000 in
theorem b_X11_make_42 {p : Program} {l : Launch} {e : Env} {s : State} {m : MethodId} {args : Array Value} {below : List Frame} {meth : Method} {c : Code} {D : va_G} {A : Nat → Prop} {ad : Nat → Nat} {cy : Nat → ClassId} {ee : EE} {n : Nat} {res : (Int32 × StT)} (F : CallFix p m c cX11_make 5 s args (Cond.code yX11_make cX11_make 5 (some .int) :: Gw) yX11_make.cls) (hr : meth.sig.returnType = (some .int)) (hk : meth.locks = false) (K : va_K D vwCl (tyL cy) s) (E : EV ee A s s.heap) (hA : ∀ q, s.heap.size ≤ q → A q) : ∀ (st : StT) (x1 : Int32) (x2 : Int32) (x3 : Int32), f_X11_make_42 n st x1 x2 x3 = some res → ∀ (H : Heap) (locs : List Loc) (ls : Array Slot), ZG D (wC ad cy st) A s H locs → lv_has ls 5 [(0, .ref (ad 0)), (1, .int x1), (2, .int x2), (3, .int x3)] → W p l e { frames := 2, cells := 0, slots := 0, locals := 51 } s m args below meth c H locs 0 0 (MQ below (QC D (some (.int res.1)) (wC ad cy res.2) A) args s 0 0 A) (F0 m 42 ls []) := by
  have hx := F.1
  have hb := F.2.1
  intro st x1 x2 x3 hf H locs ls Z hl
  unfold f_X11_make_42 at hf
  refine lv_aload_n hx hb dX11_make_42 rfl (lv_at hl 0 rfl) ?_
  refine grX11_25_0 F K Z dX11_make_43 ?_
  refine lv_iload_n hx hb dX11_make_46 rfl (lv_at hl 1 rfl) ?_
  refine lv_iload_n hx hb dX11_make_47 rfl (lv_at hl 2 rfl) ?_
  refine lv_iload_n hx hb dX11_make_48 rfl (lv_at hl 3 rfl) ?_
  obtain ⟨q49, h49, hf⟩ := bind_some hf
  refine krX11_123_X1_joined_F0 F K E hA Z h49 ⟨Nat.le_of_ble_eq_true rfl, Nat.le_of_ble_eq_true rfl⟩ hl.1 (Nat.le_of_ble_eq_true rfl) dX11_make_49 (fun H locs Z => ?_)
  refine lv_istore (lv' := [(4, .int q49.1), (0, .ref (ad 0)), (1, .int x1), (2, .int x2), (3, .int x3)]) hx hb dX11_make_52 hl (by decide) rfl (fun ls hl => ?_)
  refine lv_iload hx hb dX11_make_54 (lv_at hl 0 rfl) ?_
  refine lv_if_ge (tgt := 64) hx hb dX11_make_56 (by decide) (fun c56 => ?_) (fun c56 => ?_)
  · have hf := if_t c56 hf
    refine lv_iload hx hb dX11_make_64 (lv_at hl 0 rfl) ?_
    have hf := Option.some.inj hf
    subst hf
    exact ret_i F hr hk Z dX11_make_66
  have hf := if_f c56 hf
  refine lv_bipush (v := -4) hx hb dX11_make_59 (by decide) ?_
  refine lv_goto (tgt := 66) hx hb dX11_make_61 (by decide) ?_
  have hf := Option.some.inj hf
  subst hf
  exact ret_i F hr hk Z dX11_make_66
set_option maxRecDepth 100000 in
set_option maxHeartbeats 4000000 in
theorem c_X11_make {l : Launch} {D : va_G} {ad : Nat → Nat} {cy : Nat → ClassId} {ee : EE} {n : Nat} {st : StT} {x1 : Int32} {x2 : Int32} {x3 : Int32} {res : (Int32 × StT)} (hf : f_X11_make n st x1 x2 x3 = some res) : CT l yX11_make cX11_make 5 (some .int) 2 51 D cy ee (wC ad cy st) (wC ad cy res.2) [.ref (ad 0), .int x1, .int x2, .int x3] (some (.int res.1)) := by
  refine CT.of (by decide +kernel) (Nat.le_of_ble_eq_true rfl) ?_
  intro p e s m args below meth c A F hr hk K E hA Z ls hl
  have hl : lv_has ls 5 [(0, .ref (ad 0)), (1, .int x1), (2, .int x2), (3, .int x3)] := hl
  have hx := F.1
  have hb := F.2.1
  unfold f_X11_make at hf
  refine lv_aload_n hx hb dX11_make_0 rfl (lv_at hl 0 rfl) ?_
  refine grX11_25_0 F K Z dX11_make_1 ?_
  refine lv_iload_n hx hb dX11_make_4 rfl (lv_at hl 2 rfl) ?_
  obtain ⟨q5, h5, hf⟩ := bind_some hf
  refine krX11_109_X1_has_F0 F K E hA Z h5 ⟨Nat.le_of_ble_eq_true rfl, Nat.le_of_ble_eq_true rfl⟩ hl.1 (Nat.le_of_ble_eq_true rfl) dX11_make_5 (fun H locs Z => ?_)
  refine lv_if_eq (tgt := 22) hx hb dX11_make_8 (by decide) (fun c8 => ?_) (fun c8 => ?_)
  · have hf := if_t c8 hf
    refine lv_iconst (v := -1) hx hb dX11_make_22 (by decide) ?_
    have hf := Option.some.inj hf
    subst hf
    exact ret_i F hr hk Z dX11_make_23
  have hf := if_f c8 hf
  refine lv_aload_n hx hb dX11_make_11 rfl (lv_at hl 0 rfl) ?_
  refine grX11_25_0 F K Z dX11_make_12 ?_
  refine lv_iload_n hx hb dX11_make_15 rfl (lv_at hl 3 rfl) ?_
  obtain ⟨q16, h16, hf⟩ := bind_some hf
  refine krX11_109_X1_has_F0 F K E hA Z h16 ⟨Nat.le_of_ble_eq_true rfl, Nat.le_of_ble_eq_true rfl⟩ hl.1 (Nat.le_of_ble_eq_true rfl) dX11_make_16 (fun H locs Z => ?_)
  refine lv_if_ne (tgt := 24) hx hb dX11_make_19 (by decide) (fun c19 => ?_) (fun c19 => ?_)
  · have hf := if_f c19 hf
    refine lv_iload_n hx hb dX11_make_24 rfl (lv_at hl 1 rfl) ?_
    refine lv_iconst (v := 3) hx hb dX11_make_25 (by decide) ?_
    refine lv_icmp_eq (tgt := 42) hx hb dX11_make_26 (by decide) (fun c26 => ?_) (fun c26 => ?_)
    · have hf := if_t c26 hf
      exact b_X11_make_42 F hr hk K E hA _ _ _ _ hf _ _ _ Z hl
    have hf := if_f c26 hf
    refine lv_iload_n hx hb dX11_make_29 rfl (lv_at hl 1 rfl) ?_
    refine lv_iconst (v := 4) hx hb dX11_make_30 (by decide) ?_
    refine lv_icmp_eq (tgt := 42) hx hb dX11_make_31 (by decide) (fun c31 => ?_) (fun c31 => ?_)
    · have hf := if_t c31 hf
      exact b_X11_make_42 F hr hk K E hA _ _ _ _ hf _ _ _ Z hl
    have hf := if_f c31 hf
    refine lv_iload_n hx hb dX11_make_34 rfl (lv_at hl 1 rfl) ?_
    refine lv_iconst (v := 5) hx hb dX11_make_35 (by decide) ?_
    refine lv_icmp_eq (tgt := 42) hx hb dX11_make_36 (by decide) (fun c36 => ?_) (fun c36 => ?_)
    · have hf := if_t c36 hf
      exact b_X11_make_42 F hr hk K E hA _ _ _ _ hf _ _ _ Z hl
    have hf := if_f c36 hf
    refine lv_bipush (v := -2) hx hb dX11_make_39 (by decide) ?_
    have hf := Option.some.inj hf
    subst hf
    exact ret_i F hr hk Z dX11_make_41
  have hf := if_t c19 hf
  refine lv_iconst (v := -1) hx hb dX11_make_22 (by decide) ?_
  have hf := Option.some.inj hf
  subst hf
  exact ret_i F hr hk Z dX11_make_23
def f_X11_write (n : Nat) (st : StT) (x1 : Int32) : Option (Int32 × StT) := (f_X1_has_F0 n st x1).bind fun q5 => (if q5.1 = 0 then (some ((-1 : Int32), q5.2)) else ((f_X10_wholeFormula n q5.2 x1).bind fun q16 => (some (q16.1, q16.2))))
theorem wd834 : Cond.fieldLink RX11 43 "WorldProver" "writer" "LWorldProver$Writer;" ∈ Gw := gT2 (List.mem_of_getElem? (i := 139) rfl) rfl
theorem wd835 : Cond.methodLink RX11 127 yX10_wholeFormula ∈ Gw := gT3 (List.mem_of_getElem? (i := 199) rfl) rfl
theorem wd836 : Cond.code yX10_wholeFormula prog_12_method_3_code 2 (some .int) ∈ Gw := gT3 (List.mem_of_getElem? (i := 202) rfl) rfl
theorem wd837 : Cond.instanceMethod yX10_wholeFormula ∈ Gw := gT3 (List.mem_of_getElem? (i := 200) rfl) rfl
theorem wd838 : Cond.selects RX10 yX10_wholeFormula yX10_wholeFormula ∈ Gw := gT3 (List.mem_of_getElem? (i := 201) rfl) rfl
section
variable {p : Program} {l : Launch} {e : Env} {R : Room} {s : State} {m : MethodId} {args : Array Value} {below : List Frame} {meth : Method} {c : Code} {H : Heap} {locs : List Loc} {Q : State → Prop}
variable {cc : ByteArray} {nL pc : Nat} {ls : Array Slot} {rest : List Value} {D : va_G} {A : Nat → Prop} {cw : Cond} {ad : Nat → Nat} {cy : Nat → ClassId} {ee : EE} {st : StT} {own : String}
theorem grX11_43_0 (F : CallFix p m c cc nL s args (cw :: Gw) RX11) (K : va_K D vwCl (tyL cy) s) (Z : ZG D (wC ad cy st) A s H locs) (hd : decode cc pc = .ok (.getfield 43, 3)) (kk : W p l e R s m args below meth c H locs 0 0 Q (F0 m (pc + 3) ls (.ref (ad 18) :: rest))) : W p l e R s m args below meth c H locs 0 0 Q (F0 m pc ls (.ref (ad 0) :: rest)) :=
  va_get (D := D) (ci := 11) (C := RX11) (T := TX11) (N := 10) F.1 F.2.1 F.2.2.2.2 (fun w h => List.mem_cons_of_mem _ (inG_X11 w h)) F.2.2.2.1 K Z.1 0 rfl rfl 3 (by decide) (F.2.2.2.2 _ (List.mem_cons_of_mem _ wd834)) (fun _ h => h) rfl hd kk
theorem krX11_127_X10_wholeFormula {n : Nat} {a0 : Int32} {q : (Int32 × StT)} (F : CallFix p m c cc nL s args (cw :: Gw) RX11) (K : va_K D vwCl (tyL cy) s) (E : EV ee A s s.heap) (hA : ∀ q, s.heap.size ≤ q → A q) (Z : ZG D (wC ad cy st) A s H locs) (hf : f_X10_wholeFormula n st a0 = some q) (hR : 8 ≤ R.frames ∧ 176 ≤ R.locals) (hl : ls.size = nL) (hst : (rest.map fun v => v.category).sum ≤ 8) (hd : decode cc pc = .ok (.invokevirtual 127, 3)) (kk : ∀ (H1 : Heap) (locs1 : List Loc), ZG D (wC ad cy q.2) A s H1 locs1 → W p l e R s m args below meth c H1 locs1 0 0 Q (F0 m (pc + 3) ls (.int q.1 :: rest))) : W p l e R s m args below meth c H locs 0 0 Q (F0 m pc ls (.int a0 :: .ref (ad 18) :: rest)) :=
  call_V (q := (RX10, TX10, 8)) (n := 1) (As := [.int a0]) (rv := some (.int q.1)) 18 10 F K E hA Z (c_X10_wholeFormula (l := l) (D := D) (ad := ad) (cy := cy) (ee := ee) hf) ⟨wd836, wd835, wd837, wd838, wd519⟩ (by decide +kernel) rfl rfl hR rfl hl hst hd kk
end
set_option maxRecDepth 100000 in
set_option maxHeartbeats 4000000 in
theorem c_X11_write {l : Launch} {D : va_G} {ad : Nat → Nat} {cy : Nat → ClassId} {ee : EE} {n : Nat} {st : StT} {x1 : Int32} {res : (Int32 × StT)} (hf : f_X11_write n st x1 = some res) : CT l yX11_write cX11_write 2 (some .int) 8 176 D cy ee (wC ad cy st) (wC ad cy res.2) [.ref (ad 0), .int x1] (some (.int res.1)) := by
  refine CT.of (by decide +kernel) (Nat.le_of_ble_eq_true rfl) ?_
  intro p e s m args below meth c A F hr hk K E hA Z ls hl
  have hl : lv_has ls 2 [(0, .ref (ad 0)), (1, .int x1)] := hl
  have hx := F.1
  have hb := F.2.1
  unfold f_X11_write at hf
  refine lv_aload_n hx hb dX11_write_0 rfl (lv_at hl 0 rfl) ?_
  refine grX11_25_0 F K Z dX11_write_1 ?_
  refine lv_iload_n hx hb dX11_write_4 rfl (lv_at hl 1 rfl) ?_
  obtain ⟨q5, h5, hf⟩ := bind_some hf
  refine krX11_109_X1_has_F0 F K E hA Z h5 ⟨Nat.le_of_ble_eq_true rfl, Nat.le_of_ble_eq_true rfl⟩ hl.1 (Nat.le_of_ble_eq_true rfl) dX11_write_5 (fun H locs Z => ?_)
  refine lv_if_eq (tgt := 22) hx hb dX11_write_8 (by decide) (fun c8 => ?_) (fun c8 => ?_)
  · have hf := if_t c8 hf
    refine lv_iconst (v := -1) hx hb dX11_write_22 (by decide) ?_
    have hf := Option.some.inj hf
    subst hf
    exact ret_i F hr hk Z dX11_write_23
  have hf := if_f c8 hf
  refine lv_aload_n hx hb dX11_write_11 rfl (lv_at hl 0 rfl) ?_
  refine grX11_43_0 F K Z dX11_write_12 ?_
  refine lv_iload_n hx hb dX11_write_15 rfl (lv_at hl 1 rfl) ?_
  obtain ⟨q16, h16, hf⟩ := bind_some hf
  refine krX11_127_X10_wholeFormula F K E hA Z h16 ⟨Nat.le_of_ble_eq_true rfl, Nat.le_of_ble_eq_true rfl⟩ hl.1 (Nat.le_of_ble_eq_true rfl) dX11_write_16 (fun H locs Z => ?_)
  refine lv_goto (tgt := 23) hx hb dX11_write_19 (by decide) ?_
  have hf := Option.some.inj hf
  subst hf
  exact ret_i F hr hk Z dX11_write_23
def f_X11_octet (n : Nat) (st : StT) (x1 : Int32) : Option (Int32 × StT) := (f_X10_latestByte n st x1).bind fun q5 => (some (q5.1, q5.2))
theorem wd839 : Cond.methodLink RX11 129 yX10_latestByte ∈ Gw := gT4 (List.mem_of_getElem? (i := 38) rfl) rfl
theorem wd840 : Cond.code yX10_latestByte prog_12_method_2_code 2 (some .int) ∈ Gw := gT4 (List.mem_of_getElem? (i := 41) rfl) rfl
theorem wd841 : Cond.instanceMethod yX10_latestByte ∈ Gw := gT4 (List.mem_of_getElem? (i := 39) rfl) rfl
theorem wd842 : Cond.selects RX10 yX10_latestByte yX10_latestByte ∈ Gw := gT4 (List.mem_of_getElem? (i := 40) rfl) rfl
section
variable {p : Program} {l : Launch} {e : Env} {R : Room} {s : State} {m : MethodId} {args : Array Value} {below : List Frame} {meth : Method} {c : Code} {H : Heap} {locs : List Loc} {Q : State → Prop}
variable {cc : ByteArray} {nL pc : Nat} {ls : Array Slot} {rest : List Value} {D : va_G} {A : Nat → Prop} {cw : Cond} {ad : Nat → Nat} {cy : Nat → ClassId} {ee : EE} {st : StT} {own : String}
theorem krX11_129_X10_latestByte {n : Nat} {a0 : Int32} {q : (Int32 × StT)} (F : CallFix p m c cc nL s args (cw :: Gw) RX11) (K : va_K D vwCl (tyL cy) s) (E : EV ee A s s.heap) (hA : ∀ q, s.heap.size ≤ q → A q) (Z : ZG D (wC ad cy st) A s H locs) (hf : f_X10_latestByte n st a0 = some q) (hR : 1 ≤ R.frames ∧ 21 ≤ R.locals) (hl : ls.size = nL) (hst : (rest.map fun v => v.category).sum ≤ 8) (hd : decode cc pc = .ok (.invokevirtual 129, 3)) (kk : ∀ (H1 : Heap) (locs1 : List Loc), ZG D (wC ad cy q.2) A s H1 locs1 → W p l e R s m args below meth c H1 locs1 0 0 Q (F0 m (pc + 3) ls (.int q.1 :: rest))) : W p l e R s m args below meth c H locs 0 0 Q (F0 m pc ls (.int a0 :: .ref (ad 18) :: rest)) :=
  call_V (q := (RX10, TX10, 8)) (n := 1) (As := [.int a0]) (rv := some (.int q.1)) 18 10 F K E hA Z (c_X10_latestByte (l := l) (D := D) (ad := ad) (cy := cy) (ee := ee) hf) ⟨wd840, wd839, wd841, wd842, wd519⟩ (by decide +kernel) rfl rfl hR rfl hl hst hd kk
end
set_option maxRecDepth 100000 in
set_option maxHeartbeats 4000000 in
theorem c_X11_octet {l : Launch} {D : va_G} {ad : Nat → Nat} {cy : Nat → ClassId} {ee : EE} {n : Nat} {st : StT} {x1 : Int32} {res : (Int32 × StT)} (hf : f_X11_octet n st x1 = some res) : CT l yX11_octet cX11_octet 2 (some .int) 1 21 D cy ee (wC ad cy st) (wC ad cy res.2) [.ref (ad 0), .int x1] (some (.int res.1)) := by
  refine CT.of (by decide +kernel) (Nat.le_of_ble_eq_true rfl) ?_
  intro p e s m args below meth c A F hr hk K E hA Z ls hl
  have hl : lv_has ls 2 [(0, .ref (ad 0)), (1, .int x1)] := hl
  have hx := F.1
  have hb := F.2.1
  unfold f_X11_octet at hf
  refine lv_aload_n hx hb dX11_octet_0 rfl (lv_at hl 0 rfl) ?_
  refine grX11_43_0 F K Z dX11_octet_1 ?_
  refine lv_iload_n hx hb dX11_octet_4 rfl (lv_at hl 1 rfl) ?_
  obtain ⟨q5, h5, hf⟩ := bind_some hf
  refine krX11_129_X10_latestByte F K E hA Z h5 ⟨Nat.le_of_ble_eq_true rfl, Nat.le_of_ble_eq_true rfl⟩ hl.1 (Nat.le_of_ble_eq_true rfl) dX11_octet_5 (fun H locs Z => ?_)
  have hf := Option.some.inj hf
  subst hf
  exact ret_i F hr hk Z dX11_octet_8
def f_X11_given (n : Nat) (st : StT) (x1 : Int32) : Option (Int32 × StT) := (f_X1_has_F0 n st x1).bind fun q5 => (if q5.1 = 0 then (some ((-1 : Int32), q5.2)) else (if (q5.2.1 28) < 0 then (some ((-4 : Int32), q5.2)) else (if (q5.2.1 28) < (20 : Int32) then (if inB (q5.2.1 28) 20 = true then (some (((uF (uA q5.2 0 (q5.2.1 28) x1) 28 (((uA q5.2 0 (q5.2.1 28) x1).1 28) + (1 : Int32))).1 28), (uF (uA q5.2 0 (q5.2.1 28) x1) 28 (((uA q5.2 0 (q5.2.1 28) x1).1 28) + (1 : Int32))))) else none) else (some ((-4 : Int32), q5.2)))))
theorem wd843 : Cond.fieldLink RX11 9 "WorldProver" "givens" "[I" ∈ Gw := gT2 (List.mem_of_getElem? (i := 144) rfl) rfl
section
variable {p : Program} {l : Launch} {e : Env} {R : Room} {s : State} {m : MethodId} {args : Array Value} {below : List Frame} {meth : Method} {c : Code} {H : Heap} {locs : List Loc} {Q : State → Prop}
variable {cc : ByteArray} {nL pc : Nat} {ls : Array Slot} {rest : List Value} {D : va_G} {A : Nat → Prop} {cw : Cond} {ad : Nat → Nat} {cy : Nat → ClassId} {ee : EE} {st : StT} {own : String}
theorem grX11_9_0 (F : CallFix p m c cc nL s args (cw :: Gw) RX11) (K : va_K D vwCl (tyL cy) s) (Z : ZG D (wC ad cy st) A s H locs) (hd : decode cc pc = .ok (.getfield 9, 3)) (kk : W p l e R s m args below meth c H locs 0 0 Q (F0 m (pc + 3) ls (.ref (ad 1) :: rest))) : W p l e R s m args below meth c H locs 0 0 Q (F0 m pc ls (.ref (ad 0) :: rest)) :=
  va_get (D := D) (ci := 11) (C := RX11) (T := TX11) (N := 10) F.1 F.2.1 F.2.2.2.2 (fun w h => List.mem_cons_of_mem _ (inG_X11 w h)) F.2.2.2.1 K Z.1 0 rfl rfl 8 (by decide) (F.2.2.2.2 _ (List.mem_cons_of_mem _ wd843)) (fun _ h => h) rfl hd kk
theorem as1 {i : Int32} {v : Int32} (F : CallFix p m c cc nL s args (cw :: Gw) own) (K : va_K D vwCl (tyL cy) s) (Z : ZG D (wC ad cy st) A s H locs) (hi : inB i 20 = true) (hd : decode cc pc = .ok (.iastore, 1)) (kk : ∀ (H1 : Heap) (locs1 : List Loc), ZG D (wC ad cy (uA st 0 i v)) A s H1 locs1 → W p l e R s m args below meth c H1 locs1 0 0 Q (F0 m (pc + 1) ls rest)) : W p l e R s m args below meth c H locs 0 0 Q (F0 m pc ls (.int v :: .int i :: .ref (ad 1) :: rest)) :=
  va_iast F.1 F.2.1 K Z.1 Z.2.1 Z.2.2 1 1 rfl rfl (inB_vp hi) hd (fun H1 locs1 hP hD hS => kk H1 locs1 ⟨hP, hD, hS⟩)
theorem prX11_105_0 {v : Int32} (F : CallFix p m c cc nL s args (cw :: Gw) RX11) (K : va_K D vwCl (tyL cy) s) (Z : ZG D (wC ad cy st) A s H locs) (hd : decode cc pc = .ok (.putfield 105, 3)) (kk : ∀ (H1 : Heap) (locs1 : List Loc), ZG D (wC ad cy (uF st 28 v)) A s H1 locs1 → W p l e R s m args below meth c H1 locs1 0 0 Q (F0 m (pc + 3) ls rest)) : W p l e R s m args below meth c H locs 0 0 Q (F0 m pc ls (.int v :: .ref (ad 0) :: rest)) :=
  va_put (D := D) (ci := 11) (v := .int v) (ty := .int) (C := RX11) (T := TX11) (N := 10) F.1 F.2.1 F.2.2.2.2 (fun w h => List.mem_cons_of_mem _ (inG_X11 w h)) tyX11 tyX11_ok nmX11 F.2.2.2.1 K Z.1 Z.2.1 Z.2.2 0 rfl rfl 9 (by decide) (F.2.2.2.2 _ (List.mem_cons_of_mem _ wd815)) (fun _ h => h) rfl (by decide +kernel) rfl rfl (Nat.le_of_ble_eq_true rfl) hd (fun H1 locs1 hP hD hS => kk H1 locs1 ⟨hP, hD, hS⟩)
end
set_option maxRecDepth 100000 in
set_option maxHeartbeats 4000000 in
theorem c_X11_given {l : Launch} {D : va_G} {ad : Nat → Nat} {cy : Nat → ClassId} {ee : EE} {n : Nat} {st : StT} {x1 : Int32} {res : (Int32 × StT)} (hf : f_X11_given n st x1 = some res) : CT l yX11_given cX11_given 2 (some .int) 1 21 D cy ee (wC ad cy st) (wC ad cy res.2) [.ref (ad 0), .int x1] (some (.int res.1)) := by
  refine CT.of (by decide +kernel) (Nat.le_of_ble_eq_true rfl) ?_
  intro p e s m args below meth c A F hr hk K E hA Z ls hl
  have hl : lv_has ls 2 [(0, .ref (ad 0)), (1, .int x1)] := hl
  have hx := F.1
  have hb := F.2.1
  unfold f_X11_given at hf
  refine lv_aload_n hx hb dX11_given_0 rfl (lv_at hl 0 rfl) ?_
  refine grX11_25_0 F K Z dX11_given_1 ?_
  refine lv_iload_n hx hb dX11_given_4 rfl (lv_at hl 1 rfl) ?_
  obtain ⟨q5, h5, hf⟩ := bind_some hf
  refine krX11_109_X1_has_F0 F K E hA Z h5 ⟨Nat.le_of_ble_eq_true rfl, Nat.le_of_ble_eq_true rfl⟩ hl.1 (Nat.le_of_ble_eq_true rfl) dX11_given_5 (fun H locs Z => ?_)
  refine lv_if_ne (tgt := 13) hx hb dX11_given_8 (by decide) (fun c8 => ?_) (fun c8 => ?_)
  · have hf := if_f c8 hf
    refine lv_aload_n hx hb dX11_given_13 rfl (lv_at hl 0 rfl) ?_
    refine grX11_105_0 F K Z dX11_given_14 ?_
    refine lv_if_lt (tgt := 29) hx hb dX11_given_17 (by decide) (fun c17 => ?_) (fun c17 => ?_)
    · have hf := if_t c17 hf
      refine lv_bipush (v := -4) hx hb dX11_given_29 (by decide) ?_
      have hf := Option.some.inj hf
      subst hf
      exact ret_i F hr hk Z dX11_given_31
    have hf := if_f c17 hf
    refine lv_aload_n hx hb dX11_given_20 rfl (lv_at hl 0 rfl) ?_
    refine grX11_105_0 F K Z dX11_given_21 ?_
    refine lv_bipush (v := 20) hx hb dX11_given_24 (by decide) ?_
    refine lv_icmp_lt (tgt := 32) hx hb dX11_given_26 (by decide) (fun c26 => ?_) (fun c26 => ?_)
    · have hf := if_t c26 hf
      refine lv_aload_n hx hb dX11_given_32 rfl (lv_at hl 0 rfl) ?_
      refine grX11_9_0 F K Z dX11_given_33 ?_
      refine lv_aload_n hx hb dX11_given_36 rfl (lv_at hl 0 rfl) ?_
      refine grX11_105_0 F K Z dX11_given_37 ?_
      refine lv_iload_n hx hb dX11_given_40 rfl (lv_at hl 1 rfl) ?_
      obtain ⟨i41, hf⟩ := if_some hf
      refine as1 F K Z i41 dX11_given_41 (fun H locs Z => ?_)
      refine lv_aload_n hx hb dX11_given_42 rfl (lv_at hl 0 rfl) ?_
      refine lv_dup hx hb dX11_given_43 rfl ?_
      refine grX11_105_0 F K Z dX11_given_44 ?_
      refine lv_iconst (v := 1) hx hb dX11_given_47 (by decide) ?_
      refine lv_iadd hx hb dX11_given_48 ?_
      refine prX11_105_0 F K Z dX11_given_49 (fun H locs Z => ?_)
      refine lv_aload_n hx hb dX11_given_52 rfl (lv_at hl 0 rfl) ?_
      refine grX11_105_0 F K Z dX11_given_53 ?_
      have hf := Option.some.inj hf
      subst hf
      exact ret_i F hr hk Z dX11_given_56
    have hf := if_f c26 hf
    refine lv_bipush (v := -4) hx hb dX11_given_29 (by decide) ?_
    have hf := Option.some.inj hf
    subst hf
    exact ret_i F hr hk Z dX11_given_31
  have hf := if_t c8 hf
  refine lv_iconst (v := -1) hx hb dX11_given_11 (by decide) ?_
  have hf := Option.some.inj hf
  subst hf
  exact ret_i F hr hk Z dX11_given_12
def f_X11_forget (n : Nat) (st : StT) : Option (Int32 × StT) := some ((st.1 28), (uF st 28 (0 : Int32)))
set_option maxRecDepth 100000 in
set_option maxHeartbeats 4000000 in
theorem c_X11_forget {l : Launch} {D : va_G} {ad : Nat → Nat} {cy : Nat → ClassId} {ee : EE} {n : Nat} {st : StT} {res : (Int32 × StT)} (hf : f_X11_forget n st = some res) : CT l yX11_forget cX11_forget 2 (some .int) 0 0 D cy ee (wC ad cy st) (wC ad cy res.2) [.ref (ad 0)] (some (.int res.1)) := by
  refine CT.of (by decide +kernel) (Nat.le_of_ble_eq_true rfl) ?_
  intro p e s m args below meth c A F hr hk K E hA Z ls hl
  have hl : lv_has ls 2 [(0, .ref (ad 0))] := hl
  have hx := F.1
  have hb := F.2.1
  unfold f_X11_forget at hf
  refine lv_aload_n hx hb dX11_forget_0 rfl (lv_at hl 0 rfl) ?_
  refine grX11_105_0 F K Z dX11_forget_1 ?_
  refine lv_istore_n (lv' := [(1, .int (st.1 28)), (0, .ref (ad 0))]) hx hb dX11_forget_4 rfl hl (by decide) rfl (fun ls hl => ?_)
  refine lv_aload_n hx hb dX11_forget_5 rfl (lv_at hl 1 rfl) ?_
  refine lv_iconst (v := 0) hx hb dX11_forget_6 (by decide) ?_
  refine prX11_105_0 F K Z dX11_forget_7 (fun H locs Z => ?_)
  refine lv_iload_n hx hb dX11_forget_10 rfl (lv_at hl 0 rfl) ?_
  have hf := Option.some.inj hf
  subst hf
  exact ret_i F hr hk Z dX11_forget_11
def f_X11_prove (n : Nat) (st : StT) (x1 : Int32) (x2 : Int32) : Option (Int32 × StT) := (f_X1_has_F0 n st x1).bind fun q5 => (if q5.1 = 0 then (some ((-1 : Int32), q5.2)) else (if x2 < 0 then (some ((-2 : Int32), q5.2)) else (if x2 ≤ (2000 : Int32) then ((f_X5_run_1 n q5.2 (q5.2.1 28) x1 x2).bind fun q41 => (some (q41.1, q41.2))) else (some ((-2 : Int32), q5.2)))))
theorem wd844 : Cond.fieldLink RX11 50 "WorldProver" "search" "LWorldProver$Search;" ∈ Gw := gT2 (List.mem_of_getElem? (i := 140) rfl) rfl
theorem wd845 : Cond.methodLink RX11 132 yX5_run ∈ Gw := gT4 (List.mem_of_getElem? (i := 54) rfl) rfl
theorem wd846 : Cond.code yX5_run prog_7_method_2_code 8 (some .int) ∈ Gw := gT4 (List.mem_of_getElem? (i := 57) rfl) rfl
theorem wd847 : Cond.instanceMethod yX5_run ∈ Gw := gT4 (List.mem_of_getElem? (i := 55) rfl) rfl
theorem wd848 : Cond.selects RX5 yX5_run yX5_run ∈ Gw := gT4 (List.mem_of_getElem? (i := 56) rfl) rfl
section
variable {p : Program} {l : Launch} {e : Env} {R : Room} {s : State} {m : MethodId} {args : Array Value} {below : List Frame} {meth : Method} {c : Code} {H : Heap} {locs : List Loc} {Q : State → Prop}
variable {cc : ByteArray} {nL pc : Nat} {ls : Array Slot} {rest : List Value} {D : va_G} {A : Nat → Prop} {cw : Cond} {ad : Nat → Nat} {cy : Nat → ClassId} {ee : EE} {st : StT} {own : String}
theorem grX11_50_0 (F : CallFix p m c cc nL s args (cw :: Gw) RX11) (K : va_K D vwCl (tyL cy) s) (Z : ZG D (wC ad cy st) A s H locs) (hd : decode cc pc = .ok (.getfield 50, 3)) (kk : W p l e R s m args below meth c H locs 0 0 Q (F0 m (pc + 3) ls (.ref (ad 23) :: rest))) : W p l e R s m args below meth c H locs 0 0 Q (F0 m pc ls (.ref (ad 0) :: rest)) :=
  va_get (D := D) (ci := 11) (C := RX11) (T := TX11) (N := 10) F.1 F.2.1 F.2.2.2.2 (fun w h => List.mem_cons_of_mem _ (inG_X11 w h)) F.2.2.2.1 K Z.1 0 rfl rfl 4 (by decide) (F.2.2.2.2 _ (List.mem_cons_of_mem _ wd844)) (fun _ h => h) rfl hd kk
theorem krX11_132_X5_run_1 {n : Nat} {a1 : Int32} {a2 : Int32} {a3 : Int32} {q : (Int32 × StT)} (F : CallFix p m c cc nL s args (cw :: Gw) RX11) (K : va_K D vwCl (tyL cy) s) (E : EV ee A s s.heap) (hA : ∀ q, s.heap.size ≤ q → A q) (Z : ZG D (wC ad cy st) A s H locs) (hf : f_X5_run_1 n st a1 a2 a3 = some q) (hR : 8 ≤ R.frames ∧ 201 ≤ R.locals) (hl : ls.size = nL) (hst : (rest.map fun v => v.category).sum ≤ 8) (hd : decode cc pc = .ok (.invokevirtual 132, 3)) (kk : ∀ (H1 : Heap) (locs1 : List Loc), ZG D (wC ad cy q.2) A s H1 locs1 → W p l e R s m args below meth c H1 locs1 0 0 Q (F0 m (pc + 3) ls (.int q.1 :: rest))) : W p l e R s m args below meth c H locs 0 0 Q (F0 m pc ls (.int a3 :: .int a2 :: .int a1 :: .ref (ad 1) :: .ref (ad 23) :: rest)) :=
  call_V (q := (RX5, TX5, 14)) (n := 4) (As := [.ref (ad 1), .int a1, .int a2, .int a3]) (rv := some (.int q.1)) 23 5 F K E hA Z (c_X5_run_1 (l := l) (D := D) (ad := ad) (cy := cy) (ee := ee) hf) ⟨wd846, wd845, wd847, wd848, wd141⟩ (by decide +kernel) rfl rfl hR rfl hl hst hd kk
end
set_option maxRecDepth 100000 in
set_option maxHeartbeats 4000000 in
theorem c_X11_prove {l : Launch} {D : va_G} {ad : Nat → Nat} {cy : Nat → ClassId} {ee : EE} {n : Nat} {st : StT} {x1 : Int32} {x2 : Int32} {res : (Int32 × StT)} (hf : f_X11_prove n st x1 x2 = some res) : CT l yX11_prove cX11_prove 3 (some .int) 8 201 D cy ee (wC ad cy st) (wC ad cy res.2) [.ref (ad 0), .int x1, .int x2] (some (.int res.1)) := by
  refine CT.of (by decide +kernel) (Nat.le_of_ble_eq_true rfl) ?_
  intro p e s m args below meth c A F hr hk K E hA Z ls hl
  have hl : lv_has ls 3 [(0, .ref (ad 0)), (1, .int x1), (2, .int x2)] := hl
  have hx := F.1
  have hb := F.2.1
  unfold f_X11_prove at hf
  refine lv_aload_n hx hb dX11_prove_0 rfl (lv_at hl 0 rfl) ?_
  refine grX11_25_0 F K Z dX11_prove_1 ?_
  refine lv_iload_n hx hb dX11_prove_4 rfl (lv_at hl 1 rfl) ?_
  obtain ⟨q5, h5, hf⟩ := bind_some hf
  refine krX11_109_X1_has_F0 F K E hA Z h5 ⟨Nat.le_of_ble_eq_true rfl, Nat.le_of_ble_eq_true rfl⟩ hl.1 (Nat.le_of_ble_eq_true rfl) dX11_prove_5 (fun H locs Z => ?_)
  refine lv_if_ne (tgt := 13) hx hb dX11_prove_8 (by decide) (fun c8 => ?_) (fun c8 => ?_)
  · have hf := if_f c8 hf
    refine lv_iload_n hx hb dX11_prove_13 rfl (lv_at hl 2 rfl) ?_
    refine lv_if_lt (tgt := 24) hx hb dX11_prove_14 (by decide) (fun c14 => ?_) (fun c14 => ?_)
    · have hf := if_t c14 hf
      refine lv_bipush (v := -2) hx hb dX11_prove_24 (by decide) ?_
      have hf := Option.some.inj hf
      subst hf
      exact ret_i F hr hk Z dX11_prove_26
    have hf := if_f c14 hf
    refine lv_iload_n hx hb dX11_prove_17 rfl (lv_at hl 2 rfl) ?_
    refine lv_sipush (v := 2000) hx hb dX11_prove_18 (by decide) ?_
    refine lv_icmp_le (tgt := 27) hx hb dX11_prove_21 (by decide) (fun c21 => ?_) (fun c21 => ?_)
    · have hf := if_t c21 hf
      refine lv_aload_n hx hb dX11_prove_27 rfl (lv_at hl 0 rfl) ?_
      refine grX11_50_0 F K Z dX11_prove_28 ?_
      refine lv_aload_n hx hb dX11_prove_31 rfl (lv_at hl 0 rfl) ?_
      refine grX11_9_0 F K Z dX11_prove_32 ?_
      refine lv_aload_n hx hb dX11_prove_35 rfl (lv_at hl 0 rfl) ?_
      refine grX11_105_0 F K Z dX11_prove_36 ?_
      refine lv_iload_n hx hb dX11_prove_39 rfl (lv_at hl 1 rfl) ?_
      refine lv_iload_n hx hb dX11_prove_40 rfl (lv_at hl 2 rfl) ?_
      obtain ⟨q41, h41, hf⟩ := bind_some hf
      refine krX11_132_X5_run_1 F K E hA Z h41 ⟨Nat.le_of_ble_eq_true rfl, Nat.le_of_ble_eq_true rfl⟩ hl.1 (Nat.le_of_ble_eq_true rfl) dX11_prove_41 (fun H locs Z => ?_)
      have hf := Option.some.inj hf
      subst hf
      exact ret_i F hr hk Z dX11_prove_44
    have hf := if_f c21 hf
    refine lv_bipush (v := -2) hx hb dX11_prove_24 (by decide) ?_
    have hf := Option.some.inj hf
    subst hf
    exact ret_i F hr hk Z dX11_prove_26
  have hf := if_t c8 hf
  refine lv_iconst (v := -1) hx hb dX11_prove_11 (by decide) ?_
  have hf := Option.some.inj hf
  subst hf
  exact ret_i F hr hk Z dX11_prove_12
def f_X11_told (n : Nat) (st : StT) (x1 : Int32) : Option (Int32 × StT) := if x1 = 0 then (some ((st.1 20), st)) else (if x1 = 1 then (some ((st.1 17), st)) else (if x1 = 2 then (some ((st.1 21), st)) else (if x1 = 3 then (some ((st.1 22), st)) else (some ((-2 : Int32), st)))))
section
variable {p : Program} {l : Launch} {e : Env} {R : Room} {s : State} {m : MethodId} {args : Array Value} {below : List Frame} {meth : Method} {c : Code} {H : Heap} {locs : List Loc} {Q : State → Prop}
variable {cc : ByteArray} {nL pc : Nat} {ls : Array Slot} {rest : List Value} {D : va_G} {A : Nat → Prop} {cw : Cond} {ad : Nat → Nat} {cy : Nat → ClassId} {ee : EE} {st : StT} {own : String}
theorem grX11_136_23 (F : CallFix p m c cc nL s args (cw :: Gw) RX11) (K : va_K D vwCl (tyL cy) s) (E : EV ee A s s.heap) (Z : ZG D (wC ad cy st) A s H locs) (hd : decode cc pc = .ok (.getfield 136, 3)) (kk : W p l e R s m args below meth c H locs 0 0 Q (F0 m (pc + 3) ls (.int (st.1 20) :: rest))) : W p l e R s m args below meth c H locs 0 0 Q (F0 m pc ls (.ref (ad 23) :: rest)) :=
  va_getN (D := D) (ci := 5) (C := RX5) (T := TX5) (N := 14) F.1 F.2.1 F.2.2.2.2 (fun w h => List.mem_cons_of_mem _ (inG_X5 w h)) F.2.2.2.1 K Z.1 23 rfl rfl 9 (by decide) (va_Nw.use rfl (E.1 _ (List.mem_of_getElem? (i := 7) rfl))) (fun _ h => h) rfl hd kk
theorem grX11_139_23 (F : CallFix p m c cc nL s args (cw :: Gw) RX11) (K : va_K D vwCl (tyL cy) s) (E : EV ee A s s.heap) (Z : ZG D (wC ad cy st) A s H locs) (hd : decode cc pc = .ok (.getfield 139, 3)) (kk : W p l e R s m args below meth c H locs 0 0 Q (F0 m (pc + 3) ls (.ref (ad 30) :: rest))) : W p l e R s m args below meth c H locs 0 0 Q (F0 m pc ls (.ref (ad 23) :: rest)) :=
  va_getN (D := D) (ci := 5) (C := RX5) (T := TX5) (N := 14) F.1 F.2.1 F.2.2.2.2 (fun w h => List.mem_cons_of_mem _ (inG_X5 w h)) F.2.2.2.1 K Z.1 23 rfl rfl 2 (by decide) (va_Nw.use rfl (E.1 _ (List.mem_of_getElem? (i := 5) rfl))) (fun _ h => h) rfl hd kk
theorem grX11_143_30 (F : CallFix p m c cc nL s args (cw :: Gw) RX11) (K : va_K D vwCl (tyL cy) s) (E : EV ee A s s.heap) (Z : ZG D (wC ad cy st) A s H locs) (hd : decode cc pc = .ok (.getfield 143, 3)) (kk : W p l e R s m args below meth c H locs 0 0 Q (F0 m (pc + 3) ls (.int (st.1 17) :: rest))) : W p l e R s m args below meth c H locs 0 0 Q (F0 m pc ls (.ref (ad 30) :: rest)) :=
  va_getN (D := D) (ci := 6) (C := RX6) (T := TX6) (N := 5) F.1 F.2.1 F.2.2.2.2 (fun w h => List.mem_cons_of_mem _ (inG_X6 w h)) F.2.2.2.1 K Z.1 30 rfl rfl 4 (by decide) (va_Nw.use rfl (E.1 _ (List.mem_of_getElem? (i := 3) rfl))) (fun _ h => h) rfl hd kk
theorem grX11_148_23 (F : CallFix p m c cc nL s args (cw :: Gw) RX11) (K : va_K D vwCl (tyL cy) s) (E : EV ee A s s.heap) (Z : ZG D (wC ad cy st) A s H locs) (hd : decode cc pc = .ok (.getfield 148, 3)) (kk : W p l e R s m args below meth c H locs 0 0 Q (F0 m (pc + 3) ls (.int (st.1 21) :: rest))) : W p l e R s m args below meth c H locs 0 0 Q (F0 m pc ls (.ref (ad 23) :: rest)) :=
  va_getN (D := D) (ci := 5) (C := RX5) (T := TX5) (N := 14) F.1 F.2.1 F.2.2.2.2 (fun w h => List.mem_cons_of_mem _ (inG_X5 w h)) F.2.2.2.1 K Z.1 23 rfl rfl 10 (by decide) (va_Nw.use rfl (E.1 _ (List.mem_of_getElem? (i := 8) rfl))) (fun _ h => h) rfl hd kk
theorem grX11_151_23 (F : CallFix p m c cc nL s args (cw :: Gw) RX11) (K : va_K D vwCl (tyL cy) s) (E : EV ee A s s.heap) (Z : ZG D (wC ad cy st) A s H locs) (hd : decode cc pc = .ok (.getfield 151, 3)) (kk : W p l e R s m args below meth c H locs 0 0 Q (F0 m (pc + 3) ls (.int (st.1 22) :: rest))) : W p l e R s m args below meth c H locs 0 0 Q (F0 m pc ls (.ref (ad 23) :: rest)) :=
  va_getN (D := D) (ci := 5) (C := RX5) (T := TX5) (N := 14) F.1 F.2.1 F.2.2.2.2 (fun w h => List.mem_cons_of_mem _ (inG_X5 w h)) F.2.2.2.1 K Z.1 23 rfl rfl 11 (by decide) (va_Nw.use rfl (E.1 _ (List.mem_of_getElem? (i := 9) rfl))) (fun _ h => h) rfl hd kk
end
set_option maxRecDepth 100000 in
set_option maxHeartbeats 4000000 in
theorem c_X11_told {l : Launch} {D : va_G} {ad : Nat → Nat} {cy : Nat → ClassId} {ee : EE} {n : Nat} {st : StT} {x1 : Int32} {res : (Int32 × StT)} (hf : f_X11_told n st x1 = some res) : CT l yX11_told cX11_told 2 (some .int) 0 0 D cy ee (wC ad cy st) (wC ad cy res.2) [.ref (ad 0), .int x1] (some (.int res.1)) := by
  refine CT.of (by decide +kernel) (Nat.le_of_ble_eq_true rfl) ?_
  intro p e s m args below meth c A F hr hk K E hA Z ls hl
  have hl : lv_has ls 2 [(0, .ref (ad 0)), (1, .int x1)] := hl
  have hx := F.1
  have hb := F.2.1
  unfold f_X11_told at hf
  refine lv_iload_n hx hb dX11_told_0 rfl (lv_at hl 1 rfl) ?_
  by_cases c1_0 : x1 = 0
  · have hf := if_t c1_0 hf
    refine lv_tableIn (tgt := 32) hx hb dX11_told_1 (by rw [c1_0] <;> decide) (by rw [c1_0] <;> decide) (by rw [c1_0] <;> rfl) (by decide) ?_
    refine lv_aload_n hx hb dX11_told_32 rfl (lv_at hl 0 rfl) ?_
    refine grX11_50_0 F K Z dX11_told_33 ?_
    refine grX11_136_23 F K E Z dX11_told_36 ?_
    have hf := Option.some.inj hf
    subst hf
    exact ret_i F hr hk Z dX11_told_39
  have hf := if_f c1_0 hf
  by_cases c1_1 : x1 = 1
  · have hf := if_t c1_1 hf
    refine lv_tableIn (tgt := 40) hx hb dX11_told_1 (by rw [c1_1] <;> decide) (by rw [c1_1] <;> decide) (by rw [c1_1] <;> rfl) (by decide) ?_
    refine lv_aload_n hx hb dX11_told_40 rfl (lv_at hl 0 rfl) ?_
    refine grX11_50_0 F K Z dX11_told_41 ?_
    refine grX11_139_23 F K E Z dX11_told_44 ?_
    refine grX11_143_30 F K E Z dX11_told_47 ?_
    have hf := Option.some.inj hf
    subst hf
    exact ret_i F hr hk Z dX11_told_50
  have hf := if_f c1_1 hf
  by_cases c1_2 : x1 = 2
  · have hf := if_t c1_2 hf
    refine lv_tableIn (tgt := 51) hx hb dX11_told_1 (by rw [c1_2] <;> decide) (by rw [c1_2] <;> decide) (by rw [c1_2] <;> rfl) (by decide) ?_
    refine lv_aload_n hx hb dX11_told_51 rfl (lv_at hl 0 rfl) ?_
    refine grX11_50_0 F K Z dX11_told_52 ?_
    refine grX11_148_23 F K E Z dX11_told_55 ?_
    have hf := Option.some.inj hf
    subst hf
    exact ret_i F hr hk Z dX11_told_58
  have hf := if_f c1_2 hf
  by_cases c1_3 : x1 = 3
  · have hf := if_t c1_3 hf
    refine lv_tableIn (tgt := 59) hx hb dX11_told_1 (by rw [c1_3] <;> decide) (by rw [c1_3] <;> decide) (by rw [c1_3] <;> rfl) (by decide) ?_
    refine lv_aload_n hx hb dX11_told_59 rfl (lv_at hl 0 rfl) ?_
    refine grX11_50_0 F K Z dX11_told_60 ?_
    refine grX11_151_23 F K E Z dX11_told_63 ?_
    have hf := Option.some.inj hf
    subst hf
    exact ret_i F hr hk Z dX11_told_66
  have hf := if_f c1_3 hf
  refine sw_tab (tgt := 67) hx hb dX11_told_1 (sw_any (fun j h1 h2 hj => ?_)) (by decide) ?_
  · rcases (show j = 0 ∨ j = 1 ∨ j = 2 ∨ j = 3 by omega) with rfl | rfl | rfl | rfl
    · exact absurd hj (lv_neT c1_0 (by decide))
    · exact absurd hj (lv_neT c1_1 (by decide))
    · exact absurd hj (lv_neT c1_2 (by decide))
    · exact absurd hj (lv_neT c1_3 (by decide))
  refine lv_bipush (v := -2) hx hb dX11_told_67 (by decide) ?_
  have hf := Option.some.inj hf
  subst hf
  exact ret_i F hr hk Z dX11_told_69
def f_X11_proof (n : Nat) (st : StT) : Option (Int32 × StT) := if (st.1 22) = (1 : Int32) then ((f_X10_wholeTerm_24 n st (st.1 24) (st.1 23)).bind fun q39 => (some (q39.1, q39.2))) else (some ((-3 : Int32), st))
theorem wd849 : Cond.methodLink RX11 159 yX10_wholeTerm ∈ Gw := gT5 (List.mem_of_getElem? (i := 0) rfl) rfl
theorem wd850 : Cond.code yX10_wholeTerm prog_12_method_4_code 4 (some .int) ∈ Gw := gT5 (List.mem_of_getElem? (i := 3) rfl) rfl
theorem wd851 : Cond.instanceMethod yX10_wholeTerm ∈ Gw := gT5 (List.mem_of_getElem? (i := 1) rfl) rfl
theorem wd852 : Cond.selects RX10 yX10_wholeTerm yX10_wholeTerm ∈ Gw := gT5 (List.mem_of_getElem? (i := 2) rfl) rfl
section
variable {p : Program} {l : Launch} {e : Env} {R : Room} {s : State} {m : MethodId} {args : Array Value} {below : List Frame} {meth : Method} {c : Code} {H : Heap} {locs : List Loc} {Q : State → Prop}
variable {cc : ByteArray} {nL pc : Nat} {ls : Array Slot} {rest : List Value} {D : va_G} {A : Nat → Prop} {cw : Cond} {ad : Nat → Nat} {cy : Nat → ClassId} {ee : EE} {st : StT} {own : String}
theorem grX11_154_23 (F : CallFix p m c cc nL s args (cw :: Gw) RX11) (K : va_K D vwCl (tyL cy) s) (E : EV ee A s s.heap) (Z : ZG D (wC ad cy st) A s H locs) (hd : decode cc pc = .ok (.getfield 154, 3)) (kk : W p l e R s m args below meth c H locs 0 0 Q (F0 m (pc + 3) ls (.ref (ad 24) :: rest))) : W p l e R s m args below meth c H locs 0 0 Q (F0 m pc ls (.ref (ad 23) :: rest)) :=
  va_getN (D := D) (ci := 5) (C := RX5) (T := TX5) (N := 14) F.1 F.2.1 F.2.2.2.2 (fun w h => List.mem_cons_of_mem _ (inG_X5 w h)) F.2.2.2.1 K Z.1 23 rfl rfl 1 (by decide) (va_Nw.use rfl (E.1 _ (List.mem_of_getElem? (i := 4) rfl))) (fun _ h => h) rfl hd kk
theorem grX11_155_23 (F : CallFix p m c cc nL s args (cw :: Gw) RX11) (K : va_K D vwCl (tyL cy) s) (E : EV ee A s s.heap) (Z : ZG D (wC ad cy st) A s H locs) (hd : decode cc pc = .ok (.getfield 155, 3)) (kk : W p l e R s m args below meth c H locs 0 0 Q (F0 m (pc + 3) ls (.int (st.1 24) :: rest))) : W p l e R s m args below meth c H locs 0 0 Q (F0 m pc ls (.ref (ad 23) :: rest)) :=
  va_getN (D := D) (ci := 5) (C := RX5) (T := TX5) (N := 14) F.1 F.2.1 F.2.2.2.2 (fun w h => List.mem_cons_of_mem _ (inG_X5 w h)) F.2.2.2.1 K Z.1 23 rfl rfl 13 (by decide) (va_Nw.use rfl (E.1 _ (List.mem_of_getElem? (i := 11) rfl))) (fun _ h => h) rfl hd kk
theorem grX11_158_23 (F : CallFix p m c cc nL s args (cw :: Gw) RX11) (K : va_K D vwCl (tyL cy) s) (E : EV ee A s s.heap) (Z : ZG D (wC ad cy st) A s H locs) (hd : decode cc pc = .ok (.getfield 158, 3)) (kk : W p l e R s m args below meth c H locs 0 0 Q (F0 m (pc + 3) ls (.int (st.1 23) :: rest))) : W p l e R s m args below meth c H locs 0 0 Q (F0 m pc ls (.ref (ad 23) :: rest)) :=
  va_getN (D := D) (ci := 5) (C := RX5) (T := TX5) (N := 14) F.1 F.2.1 F.2.2.2.2 (fun w h => List.mem_cons_of_mem _ (inG_X5 w h)) F.2.2.2.1 K Z.1 23 rfl rfl 12 (by decide) (va_Nw.use rfl (E.1 _ (List.mem_of_getElem? (i := 10) rfl))) (fun _ h => h) rfl hd kk
theorem krX11_159_X10_wholeTerm_24 {n : Nat} {a1 : Int32} {a2 : Int32} {q : (Int32 × StT)} (F : CallFix p m c cc nL s args (cw :: Gw) RX11) (K : va_K D vwCl (tyL cy) s) (E : EV ee A s s.heap) (hA : ∀ q, s.heap.size ≤ q → A q) (Z : ZG D (wC ad cy st) A s H locs) (hf : f_X10_wholeTerm_24 n st a1 a2 = some q) (hR : 10 ≤ R.frames ∧ 229 ≤ R.locals) (hl : ls.size = nL) (hst : (rest.map fun v => v.category).sum ≤ 8) (hd : decode cc pc = .ok (.invokevirtual 159, 3)) (kk : ∀ (H1 : Heap) (locs1 : List Loc), ZG D (wC ad cy q.2) A s H1 locs1 → W p l e R s m args below meth c H1 locs1 0 0 Q (F0 m (pc + 3) ls (.int q.1 :: rest))) : W p l e R s m args below meth c H locs 0 0 Q (F0 m pc ls (.int a2 :: .int a1 :: .ref (ad 24) :: .ref (ad 18) :: rest)) :=
  call_V (q := (RX10, TX10, 8)) (n := 3) (As := [.ref (ad 24), .int a1, .int a2]) (rv := some (.int q.1)) 18 10 F K E hA Z (c_X10_wholeTerm_24 (l := l) (D := D) (ad := ad) (cy := cy) (ee := ee) hf) ⟨wd850, wd849, wd851, wd852, wd519⟩ (by decide +kernel) rfl rfl hR rfl hl hst hd kk
end
set_option maxRecDepth 100000 in
set_option maxHeartbeats 4000000 in
theorem c_X11_proof {l : Launch} {D : va_G} {ad : Nat → Nat} {cy : Nat → ClassId} {ee : EE} {n : Nat} {st : StT} {res : (Int32 × StT)} (hf : f_X11_proof n st = some res) : CT l yX11_proof cX11_proof 1 (some .int) 10 229 D cy ee (wC ad cy st) (wC ad cy res.2) [.ref (ad 0)] (some (.int res.1)) := by
  refine CT.of (by decide +kernel) (Nat.le_of_ble_eq_true rfl) ?_
  intro p e s m args below meth c A F hr hk K E hA Z ls hl
  have hl : lv_has ls 1 [(0, .ref (ad 0))] := hl
  have hx := F.1
  have hb := F.2.1
  unfold f_X11_proof at hf
  refine lv_aload_n hx hb dX11_proof_0 rfl (lv_at hl 0 rfl) ?_
  refine grX11_50_0 F K Z dX11_proof_1 ?_
  refine grX11_151_23 F K E Z dX11_proof_4 ?_
  refine lv_iconst (v := 1) hx hb dX11_proof_7 (by decide) ?_
  refine lv_icmp_eq (tgt := 14) hx hb dX11_proof_8 (by decide) (fun c8 => ?_) (fun c8 => ?_)
  · have hf := if_t c8 hf
    refine lv_aload_n hx hb dX11_proof_14 rfl (lv_at hl 0 rfl) ?_
    refine grX11_43_0 F K Z dX11_proof_15 ?_
    refine lv_aload_n hx hb dX11_proof_18 rfl (lv_at hl 0 rfl) ?_
    refine grX11_50_0 F K Z dX11_proof_19 ?_
    refine grX11_154_23 F K E Z dX11_proof_22 ?_
    refine lv_aload_n hx hb dX11_proof_25 rfl (lv_at hl 0 rfl) ?_
    refine grX11_50_0 F K Z dX11_proof_26 ?_
    refine grX11_155_23 F K E Z dX11_proof_29 ?_
    refine lv_aload_n hx hb dX11_proof_32 rfl (lv_at hl 0 rfl) ?_
    refine grX11_50_0 F K Z dX11_proof_33 ?_
    refine grX11_158_23 F K E Z dX11_proof_36 ?_
    obtain ⟨q39, h39, hf⟩ := bind_some hf
    refine krX11_159_X10_wholeTerm_24 F K E hA Z h39 ⟨Nat.le_of_ble_eq_true rfl, Nat.le_of_ble_eq_true rfl⟩ hl.1 (Nat.le_of_ble_eq_true rfl) dX11_proof_39 (fun H locs Z => ?_)
    have hf := Option.some.inj hf
    subst hf
    exact ret_i F hr hk Z dX11_proof_42
  have hf := if_f c8 hf
  refine lv_bipush (v := -3) hx hb dX11_proof_11 (by decide) ?_
  have hf := Option.some.inj hf
  subst hf
  exact ret_i F hr hk Z dX11_proof_13
def f_X11_check (n : Nat) (st : StT) (x1 : Int32) : Option (Int32 × StT) := (f_X1_has_F0 n st x1).bind fun q5 => (if q5.1 = 0 then (some ((-1 : Int32), q5.2)) else ((f_X3_wholeTerm n q5.2 (q5.2.1 28)).bind fun q21 => (if (q21.2.1 10) = 0 then ((f_X0_accepts_1 n q21.2 q21.1 x1 (q21.2.1 28)).bind fun q60 => (if q60.1 = 0 then (some ((0 : Int32), q60.2)) else (some ((1 : Int32), q60.2)))) else (some (((-10 : Int32) - (q21.2.1 10)), q21.2)))))
theorem wd853 : Cond.fieldLink RX11 63 "WorldProver" "checker" "LWorldProver$Checker;" ∈ Gw := gT2 (List.mem_of_getElem? (i := 141) rfl) rfl
theorem wd854 : Cond.methodLink RX11 165 yX0_accepts ∈ Gw := gT5 (List.mem_of_getElem? (i := 82) rfl) rfl
theorem wd855 : Cond.code yX0_accepts prog_2_method_2_code 6 (some .boolean) ∈ Gw := gT5 (List.mem_of_getElem? (i := 85) rfl) rfl
theorem wd856 : Cond.instanceMethod yX0_accepts ∈ Gw := gT5 (List.mem_of_getElem? (i := 83) rfl) rfl
theorem wd857 : Cond.selects RX0 yX0_accepts yX0_accepts ∈ Gw := gT5 (List.mem_of_getElem? (i := 84) rfl) rfl
theorem wd858 : Cond.methodLink RX11 163 yX3_wholeTerm ∈ Gw := gT5 (List.mem_of_getElem? (i := 56) rfl) rfl
theorem wd859 : Cond.code yX3_wholeTerm prog_5_method_3_code 3 (some .int) ∈ Gw := gT5 (List.mem_of_getElem? (i := 59) rfl) rfl
theorem wd860 : Cond.instanceMethod yX3_wholeTerm ∈ Gw := gT5 (List.mem_of_getElem? (i := 57) rfl) rfl
theorem wd861 : Cond.selects RX3 yX3_wholeTerm yX3_wholeTerm ∈ Gw := gT5 (List.mem_of_getElem? (i := 58) rfl) rfl
section
variable {p : Program} {l : Launch} {e : Env} {R : Room} {s : State} {m : MethodId} {args : Array Value} {below : List Frame} {meth : Method} {c : Code} {H : Heap} {locs : List Loc} {Q : State → Prop}
variable {cc : ByteArray} {nL pc : Nat} {ls : Array Slot} {rest : List Value} {D : va_G} {A : Nat → Prop} {cw : Cond} {ad : Nat → Nat} {cy : Nat → ClassId} {ee : EE} {st : StT} {own : String}
theorem grX11_63_0 (F : CallFix p m c cc nL s args (cw :: Gw) RX11) (K : va_K D vwCl (tyL cy) s) (Z : ZG D (wC ad cy st) A s H locs) (hd : decode cc pc = .ok (.getfield 63, 3)) (kk : W p l e R s m args below meth c H locs 0 0 Q (F0 m (pc + 3) ls (.ref (ad 46) :: rest))) : W p l e R s m args below meth c H locs 0 0 Q (F0 m pc ls (.ref (ad 0) :: rest)) :=
  va_get (D := D) (ci := 11) (C := RX11) (T := TX11) (N := 10) F.1 F.2.1 F.2.2.2.2 (fun w h => List.mem_cons_of_mem _ (inG_X11 w h)) F.2.2.2.1 K Z.1 0 rfl rfl 5 (by decide) (F.2.2.2.2 _ (List.mem_cons_of_mem _ wd853)) (fun _ h => h) rfl hd kk
theorem krX11_165_X0_accepts_1 {n : Nat} {a0 : Int32} {a1 : Int32} {a3 : Int32} {q : (Int32 × StT)} (F : CallFix p m c cc nL s args (cw :: Gw) RX11) (K : va_K D vwCl (tyL cy) s) (E : EV ee A s s.heap) (hA : ∀ q, s.heap.size ≤ q → A q) (Z : ZG D (wC ad cy st) A s H locs) (hf : f_X0_accepts_1 n st a0 a1 a3 = some q) (hR : 135 ≤ R.frames ∧ 3898 ≤ R.locals) (hl : ls.size = nL) (hst : (rest.map fun v => v.category).sum ≤ 8) (hd : decode cc pc = .ok (.invokevirtual 165, 3)) (kk : ∀ (H1 : Heap) (locs1 : List Loc), ZG D (wC ad cy q.2) A s H1 locs1 → W p l e R s m args below meth c H1 locs1 0 0 Q (F0 m (pc + 3) ls (.int q.1 :: rest))) : W p l e R s m args below meth c H locs 0 0 Q (F0 m pc ls (.int a3 :: .ref (ad 1) :: .int a1 :: .int a0 :: .ref (ad 46) :: rest)) :=
  call_V (q := (RX0, TX0, 4)) (n := 4) (As := [.int a0, .int a1, .ref (ad 1), .int a3]) (rv := some (.int q.1)) 46 0 F K E hA Z (c_X0_accepts_1 (l := l) (D := D) (ad := ad) (cy := cy) (ee := ee) hf) ⟨wd855, wd854, wd856, wd857, wd746⟩ (by decide +kernel) rfl rfl hR rfl hl hst hd kk
theorem krX11_163_X3_wholeTerm {n : Nat} {a0 : Int32} {q : (Int32 × StT)} (F : CallFix p m c cc nL s args (cw :: Gw) RX11) (K : va_K D vwCl (tyL cy) s) (E : EV ee A s s.heap) (hA : ∀ q, s.heap.size ≤ q → A q) (Z : ZG D (wC ad cy st) A s H locs) (hf : f_X3_wholeTerm n st a0 = some q) (hR : 401 ≤ R.frames ∧ 10128 ≤ R.locals) (hl : ls.size = nL) (hst : (rest.map fun v => v.category).sum ≤ 8) (hd : decode cc pc = .ok (.invokevirtual 163, 3)) (kk : ∀ (H1 : Heap) (locs1 : List Loc), ZG D (wC ad cy q.2) A s H1 locs1 → W p l e R s m args below meth c H1 locs1 0 0 Q (F0 m (pc + 3) ls (.int q.1 :: rest))) : W p l e R s m args below meth c H locs 0 0 Q (F0 m pc ls (.int a0 :: .ref (ad 11) :: rest)) :=
  call_V (q := (RX3, TX3, 6)) (n := 1) (As := [.int a0]) (rv := some (.int q.1)) 11 3 F K E hA Z (c_X3_wholeTerm (l := l) (D := D) (ad := ad) (cy := cy) (ee := ee) hf) ⟨wd859, wd858, wd860, wd861, wd623⟩ (by decide +kernel) rfl rfl hR rfl hl hst hd kk
end
set_option maxRecDepth 100000 in
set_option maxHeartbeats 4000000 in
theorem c_X11_check {l : Launch} {D : va_G} {ad : Nat → Nat} {cy : Nat → ClassId} {ee : EE} {n : Nat} {st : StT} {x1 : Int32} {res : (Int32 × StT)} (hf : f_X11_check n st x1 = some res) : CT l yX11_check cX11_check 3 (some .int) 401 10128 D cy ee (wC ad cy st) (wC ad cy res.2) [.ref (ad 0), .int x1] (some (.int res.1)) := by
  refine CT.of (by decide +kernel) (Nat.le_of_ble_eq_true rfl) ?_
  intro p e s m args below meth c A F hr hk K E hA Z ls hl
  have hl : lv_has ls 3 [(0, .ref (ad 0)), (1, .int x1)] := hl
  have hx := F.1
  have hb := F.2.1
  unfold f_X11_check at hf
  refine lv_aload_n hx hb dX11_check_0 rfl (lv_at hl 0 rfl) ?_
  refine grX11_25_0 F K Z dX11_check_1 ?_
  refine lv_iload_n hx hb dX11_check_4 rfl (lv_at hl 1 rfl) ?_
  obtain ⟨q5, h5, hf⟩ := bind_some hf
  refine krX11_109_X1_has_F0 F K E hA Z h5 ⟨Nat.le_of_ble_eq_true rfl, Nat.le_of_ble_eq_true rfl⟩ hl.1 (Nat.le_of_ble_eq_true rfl) dX11_check_5 (fun H locs Z => ?_)
  refine lv_if_ne (tgt := 13) hx hb dX11_check_8 (by decide) (fun c8 => ?_) (fun c8 => ?_)
  · have hf := if_f c8 hf
    refine lv_aload_n hx hb dX11_check_13 rfl (lv_at hl 0 rfl) ?_
    refine grX11_34_0 F K Z dX11_check_14 ?_
    refine lv_aload_n hx hb dX11_check_17 rfl (lv_at hl 0 rfl) ?_
    refine grX11_105_0 F K Z dX11_check_18 ?_
    obtain ⟨q21, h21, hf⟩ := bind_some hf
    refine krX11_163_X3_wholeTerm F K E hA Z h21 ⟨Nat.le_of_ble_eq_true rfl, Nat.le_of_ble_eq_true rfl⟩ hl.1 (Nat.le_of_ble_eq_true rfl) dX11_check_21 (fun H locs Z => ?_)
    refine lv_istore_n (lv' := [(2, .int q21.1), (0, .ref (ad 0)), (1, .int x1)]) hx hb dX11_check_24 rfl hl (by decide) rfl (fun ls hl => ?_)
    refine lv_aload_n hx hb dX11_check_25 rfl (lv_at hl 1 rfl) ?_
    refine grX11_34_0 F K Z dX11_check_26 ?_
    refine grX11_92_11 F K E Z dX11_check_29 ?_
    refine lv_if_eq (tgt := 46) hx hb dX11_check_32 (by decide) (fun c32 => ?_) (fun c32 => ?_)
    · have hf := if_t c32 hf
      refine lv_aload_n hx hb dX11_check_46 rfl (lv_at hl 1 rfl) ?_
      refine grX11_63_0 F K Z dX11_check_47 ?_
      refine lv_iload_n hx hb dX11_check_50 rfl (lv_at hl 0 rfl) ?_
      refine lv_iload_n hx hb dX11_check_51 rfl (lv_at hl 2 rfl) ?_
      refine lv_aload_n hx hb dX11_check_52 rfl (lv_at hl 1 rfl) ?_
      refine grX11_9_0 F K Z dX11_check_53 ?_
      refine lv_aload_n hx hb dX11_check_56 rfl (lv_at hl 1 rfl) ?_
      refine grX11_105_0 F K Z dX11_check_57 ?_
      obtain ⟨q60, h60, hf⟩ := bind_some hf
      refine krX11_165_X0_accepts_1 F K E hA Z h60 ⟨Nat.le_of_ble_eq_true rfl, Nat.le_of_ble_eq_true rfl⟩ hl.1 (Nat.le_of_ble_eq_true rfl) dX11_check_60 (fun H locs Z => ?_)
      refine lv_if_eq (tgt := 70) hx hb dX11_check_63 (by decide) (fun c63 => ?_) (fun c63 => ?_)
      · have hf := if_t c63 hf
        refine lv_iconst (v := 0) hx hb dX11_check_70 (by decide) ?_
        have hf := Option.some.inj hf
        subst hf
        exact ret_i F hr hk Z dX11_check_71
      have hf := if_f c63 hf
      refine lv_iconst (v := 1) hx hb dX11_check_66 (by decide) ?_
      refine lv_goto (tgt := 71) hx hb dX11_check_67 (by decide) ?_
      have hf := Option.some.inj hf
      subst hf
      exact ret_i F hr hk Z dX11_check_71
    have hf := if_f c32 hf
    refine lv_bipush (v := -10) hx hb dX11_check_35 (by decide) ?_
    refine lv_aload_n hx hb dX11_check_37 rfl (lv_at hl 1 rfl) ?_
    refine grX11_34_0 F K Z dX11_check_38 ?_
    refine grX11_92_11 F K E Z dX11_check_41 ?_
    refine lv_isub hx hb dX11_check_44 ?_
    have hf := Option.some.inj hf
    subst hf
    exact ret_i F hr hk Z dX11_check_45
  have hf := if_t c8 hf
  refine lv_iconst (v := -1) hx hb dX11_check_11 (by decide) ?_
  have hf := Option.some.inj hf
  subst hf
  exact ret_i F hr hk Z dX11_check_12
def f_X11_classical (n : Nat) (st : StT) (x1 : Int32) : Option (Int32 × StT) := (f_X1_has_F0 n st x1).bind fun q5 => (if q5.1 = 0 then (some ((-1 : Int32), q5.2)) else ((f_X2_byAllAssignments n q5.2 x1).bind fun q16 => (some (q16.1, q16.2))))
theorem wd862 : Cond.fieldLink RX11 70 "WorldProver" "parts" "LWorldProver$Parts;" ∈ Gw := gT2 (List.mem_of_getElem? (i := 142) rfl) rfl
theorem wd863 : Cond.methodLink RX11 169 yX2_byAllAssignments ∈ Gw := gT5 (List.mem_of_getElem? (i := 134) rfl) rfl
theorem wd864 : Cond.code yX2_byAllAssignments prog_4_method_6_code 7 (some .int) ∈ Gw := gT5 (List.mem_of_getElem? (i := 137) rfl) rfl
theorem wd865 : Cond.instanceMethod yX2_byAllAssignments ∈ Gw := gT5 (List.mem_of_getElem? (i := 135) rfl) rfl
theorem wd866 : Cond.selects RX2 yX2_byAllAssignments yX2_byAllAssignments ∈ Gw := gT5 (List.mem_of_getElem? (i := 136) rfl) rfl
section
variable {p : Program} {l : Launch} {e : Env} {R : Room} {s : State} {m : MethodId} {args : Array Value} {below : List Frame} {meth : Method} {c : Code} {H : Heap} {locs : List Loc} {Q : State → Prop}
variable {cc : ByteArray} {nL pc : Nat} {ls : Array Slot} {rest : List Value} {D : va_G} {A : Nat → Prop} {cw : Cond} {ad : Nat → Nat} {cy : Nat → ClassId} {ee : EE} {st : StT} {own : String}
theorem grX11_70_0 (F : CallFix p m c cc nL s args (cw :: Gw) RX11) (K : va_K D vwCl (tyL cy) s) (Z : ZG D (wC ad cy st) A s H locs) (hd : decode cc pc = .ok (.getfield 70, 3)) (kk : W p l e R s m args below meth c H locs 0 0 Q (F0 m (pc + 3) ls (.ref (ad 55) :: rest))) : W p l e R s m args below meth c H locs 0 0 Q (F0 m pc ls (.ref (ad 0) :: rest)) :=
  va_get (D := D) (ci := 11) (C := RX11) (T := TX11) (N := 10) F.1 F.2.1 F.2.2.2.2 (fun w h => List.mem_cons_of_mem _ (inG_X11 w h)) F.2.2.2.1 K Z.1 0 rfl rfl 6 (by decide) (F.2.2.2.2 _ (List.mem_cons_of_mem _ wd862)) (fun _ h => h) rfl hd kk
theorem krX11_169_X2_byAllAssignments {n : Nat} {a0 : Int32} {q : (Int32 × StT)} (F : CallFix p m c cc nL s args (cw :: Gw) RX11) (K : va_K D vwCl (tyL cy) s) (E : EV ee A s s.heap) (hA : ∀ q, s.heap.size ≤ q → A q) (Z : ZG D (wC ad cy st) A s H locs) (hf : f_X2_byAllAssignments n st a0 = some q) (hR : 5 ≤ R.frames ∧ 116 ≤ R.locals) (hl : ls.size = nL) (hst : (rest.map fun v => v.category).sum ≤ 8) (hd : decode cc pc = .ok (.invokevirtual 169, 3)) (kk : ∀ (H1 : Heap) (locs1 : List Loc), ZG D (wC ad cy q.2) A s H1 locs1 → W p l e R s m args below meth c H1 locs1 0 0 Q (F0 m (pc + 3) ls (.int q.1 :: rest))) : W p l e R s m args below meth c H locs 0 0 Q (F0 m pc ls (.int a0 :: .ref (ad 55) :: rest)) :=
  call_V (q := (RX2, TX2, 3)) (n := 1) (As := [.int a0]) (rv := some (.int q.1)) 55 2 F K E hA Z (c_X2_byAllAssignments (l := l) (D := D) (ad := ad) (cy := cy) (ee := ee) hf) ⟨wd864, wd863, wd865, wd866, wd366⟩ (by decide +kernel) rfl rfl hR rfl hl hst hd kk
end
set_option maxRecDepth 100000 in
set_option maxHeartbeats 4000000 in
theorem c_X11_classical {l : Launch} {D : va_G} {ad : Nat → Nat} {cy : Nat → ClassId} {ee : EE} {n : Nat} {st : StT} {x1 : Int32} {res : (Int32 × StT)} (hf : f_X11_classical n st x1 = some res) : CT l yX11_classical cX11_classical 2 (some .int) 5 116 D cy ee (wC ad cy st) (wC ad cy res.2) [.ref (ad 0), .int x1] (some (.int res.1)) := by
  refine CT.of (by decide +kernel) (Nat.le_of_ble_eq_true rfl) ?_
  intro p e s m args below meth c A F hr hk K E hA Z ls hl
  have hl : lv_has ls 2 [(0, .ref (ad 0)), (1, .int x1)] := hl
  have hx := F.1
  have hb := F.2.1
  unfold f_X11_classical at hf
  refine lv_aload_n hx hb dX11_classical_0 rfl (lv_at hl 0 rfl) ?_
  refine grX11_25_0 F K Z dX11_classical_1 ?_
  refine lv_iload_n hx hb dX11_classical_4 rfl (lv_at hl 1 rfl) ?_
  obtain ⟨q5, h5, hf⟩ := bind_some hf
  refine krX11_109_X1_has_F0 F K E hA Z h5 ⟨Nat.le_of_ble_eq_true rfl, Nat.le_of_ble_eq_true rfl⟩ hl.1 (Nat.le_of_ble_eq_true rfl) dX11_classical_5 (fun H locs Z => ?_)
  refine lv_if_eq (tgt := 22) hx hb dX11_classical_8 (by decide) (fun c8 => ?_) (fun c8 => ?_)
  · have hf := if_t c8 hf
    refine lv_iconst (v := -1) hx hb dX11_classical_22 (by decide) ?_
    have hf := Option.some.inj hf
    subst hf
    exact ret_i F hr hk Z dX11_classical_23
  have hf := if_f c8 hf
  refine lv_aload_n hx hb dX11_classical_11 rfl (lv_at hl 0 rfl) ?_
  refine grX11_70_0 F K Z dX11_classical_12 ?_
  refine lv_iload_n hx hb dX11_classical_15 rfl (lv_at hl 1 rfl) ?_
  obtain ⟨q16, h16, hf⟩ := bind_some hf
  refine krX11_169_X2_byAllAssignments F K E hA Z h16 ⟨Nat.le_of_ble_eq_true rfl, Nat.le_of_ble_eq_true rfl⟩ hl.1 (Nat.le_of_ble_eq_true rfl) dX11_classical_16 (fun H locs Z => ?_)
  refine lv_goto (tgt := 23) hx hb dX11_classical_19 (by decide) ?_
  have hf := Option.some.inj hf
  subst hf
  exact ret_i F hr hk Z dX11_classical_23
def f_X11_refute (n : Nat) (st : StT) : Option (Int32 × StT) := if (st.1 22) = 0 then ((f_X9_take_35 n st (st.1 24)).bind fun q31 => (some (q31.1, q31.2))) else (some ((-3 : Int32), st))
theorem wd867 : Cond.methodLink RX11 176 yX9_take ∈ Gw := gT5 (List.mem_of_getElem? (i := 185) rfl) rfl
theorem wd868 : Cond.code yX9_take prog_11_method_13_code 6 (some .int) ∈ Gw := gT5 (List.mem_of_getElem? (i := 188) rfl) rfl
theorem wd869 : Cond.instanceMethod yX9_take ∈ Gw := gT5 (List.mem_of_getElem? (i := 186) rfl) rfl
theorem wd870 : Cond.selects RX9 yX9_take yX9_take ∈ Gw := gT5 (List.mem_of_getElem? (i := 187) rfl) rfl
section
variable {p : Program} {l : Launch} {e : Env} {R : Room} {s : State} {m : MethodId} {args : Array Value} {below : List Frame} {meth : Method} {c : Code} {H : Heap} {locs : List Loc} {Q : State → Prop}
variable {cc : ByteArray} {nL pc : Nat} {ls : Array Slot} {rest : List Value} {D : va_G} {A : Nat → Prop} {cw : Cond} {ad : Nat → Nat} {cy : Nat → ClassId} {ee : EE} {st : StT} {own : String}
theorem grX11_172_23 (F : CallFix p m c cc nL s args (cw :: Gw) RX11) (K : va_K D vwCl (tyL cy) s) (E : EV ee A s s.heap) (Z : ZG D (wC ad cy st) A s H locs) (hd : decode cc pc = .ok (.getfield 172, 3)) (kk : W p l e R s m args below meth c H locs 0 0 Q (F0 m (pc + 3) ls (.ref (ad 35) :: rest))) : W p l e R s m args below meth c H locs 0 0 Q (F0 m pc ls (.ref (ad 23) :: rest)) :=
  va_getN (D := D) (ci := 5) (C := RX5) (T := TX5) (N := 14) F.1 F.2.1 F.2.2.2.2 (fun w h => List.mem_cons_of_mem _ (inG_X5 w h)) F.2.2.2.1 K Z.1 23 rfl rfl 3 (by decide) (va_Nw.use rfl (E.1 _ (List.mem_of_getElem? (i := 6) rfl))) (fun _ h => h) rfl hd kk
theorem krX11_176_X9_take_35 {n : Nat} {a1 : Int32} {q : (Int32 × StT)} (F : CallFix p m c cc nL s args (cw :: Gw) RX11) (K : va_K D vwCl (tyL cy) s) (E : EV ee A s s.heap) (hA : ∀ q, s.heap.size ≤ q → A q) (Z : ZG D (wC ad cy st) A s H locs) (hf : f_X9_take_35 n st a1 = some q) (hR : 4 ≤ R.frames ∧ 93 ≤ R.locals) (hl : ls.size = nL) (hst : (rest.map fun v => v.category).sum ≤ 8) (hd : decode cc pc = .ok (.invokevirtual 176, 3)) (kk : ∀ (H1 : Heap) (locs1 : List Loc), ZG D (wC ad cy q.2) A s H1 locs1 → W p l e R s m args below meth c H1 locs1 0 0 Q (F0 m (pc + 3) ls (.int q.1 :: rest))) : W p l e R s m args below meth c H locs 0 0 Q (F0 m pc ls (.int a1 :: .ref (ad 35) :: .ref (ad 58) :: rest)) :=
  call_V (q := (RX9, TX9, 6)) (n := 2) (As := [.ref (ad 35), .int a1]) (rv := some (.int q.1)) 58 9 F K E hA Z (c_X9_take_35 (l := l) (D := D) (ad := ad) (cy := cy) (ee := ee) hf) ⟨wd868, wd867, wd869, wd870, wd319⟩ (by decide +kernel) rfl rfl hR rfl hl hst hd kk
end
set_option maxRecDepth 100000 in
set_option maxHeartbeats 4000000 in
theorem c_X11_refute {l : Launch} {D : va_G} {ad : Nat → Nat} {cy : Nat → ClassId} {ee : EE} {n : Nat} {st : StT} {res : (Int32 × StT)} (hf : f_X11_refute n st = some res) : CT l yX11_refute cX11_refute 1 (some .int) 4 93 D cy ee (wC ad cy st) (wC ad cy res.2) [.ref (ad 0)] (some (.int res.1)) := by
  refine CT.of (by decide +kernel) (Nat.le_of_ble_eq_true rfl) ?_
  intro p e s m args below meth c A F hr hk K E hA Z ls hl
  have hl : lv_has ls 1 [(0, .ref (ad 0))] := hl
  have hx := F.1
  have hb := F.2.1
  unfold f_X11_refute at hf
  refine lv_aload_n hx hb dX11_refute_0 rfl (lv_at hl 0 rfl) ?_
  refine grX11_50_0 F K Z dX11_refute_1 ?_
  refine grX11_151_23 F K E Z dX11_refute_4 ?_
  refine lv_if_eq (tgt := 13) hx hb dX11_refute_7 (by decide) (fun c7 => ?_) (fun c7 => ?_)
  · have hf := if_t c7 hf
    refine lv_aload_n hx hb dX11_refute_13 rfl (lv_at hl 0 rfl) ?_
    refine grX11_77_0 F K Z dX11_refute_14 ?_
    refine lv_aload_n hx hb dX11_refute_17 rfl (lv_at hl 0 rfl) ?_
    refine grX11_50_0 F K Z dX11_refute_18 ?_
    refine grX11_172_23 F K E Z dX11_refute_21 ?_
    refine lv_aload_n hx hb dX11_refute_24 rfl (lv_at hl 0 rfl) ?_
    refine grX11_50_0 F K Z dX11_refute_25 ?_
    refine grX11_155_23 F K E Z dX11_refute_28 ?_
    obtain ⟨q31, h31, hf⟩ := bind_some hf
    refine krX11_176_X9_take_35 F K E hA Z h31 ⟨Nat.le_of_ble_eq_true rfl, Nat.le_of_ble_eq_true rfl⟩ hl.1 (Nat.le_of_ble_eq_true rfl) dX11_refute_31 (fun H locs Z => ?_)
    have hf := Option.some.inj hf
    subst hf
    exact ret_i F hr hk Z dX11_refute_34
  have hf := if_f c7 hf
  refine lv_bipush (v := -3) hx hb dX11_refute_10 (by decide) ?_
  have hf := Option.some.inj hf
  subst hf
  exact ret_i F hr hk Z dX11_refute_12
def f_X11_clear (n : Nat) (st : StT) : Option (Int32 × StT) := (f_X9_many n st).bind fun q4 => ((f_X9_drop n q4.2).bind fun q12 => (some (q4.1, q12)))
theorem wd871 : Cond.methodLink RX11 180 yX9_drop ∈ Gw := gT5 (List.mem_of_getElem? (i := 218) rfl) rfl
theorem wd872 : Cond.code yX9_drop prog_11_method_4_code 1 none ∈ Gw := gT5 (List.mem_of_getElem? (i := 221) rfl) rfl
theorem wd873 : Cond.instanceMethod yX9_drop ∈ Gw := gT5 (List.mem_of_getElem? (i := 219) rfl) rfl
theorem wd874 : Cond.selects RX9 yX9_drop yX9_drop ∈ Gw := gT5 (List.mem_of_getElem? (i := 220) rfl) rfl
section
variable {p : Program} {l : Launch} {e : Env} {R : Room} {s : State} {m : MethodId} {args : Array Value} {below : List Frame} {meth : Method} {c : Code} {H : Heap} {locs : List Loc} {Q : State → Prop}
variable {cc : ByteArray} {nL pc : Nat} {ls : Array Slot} {rest : List Value} {D : va_G} {A : Nat → Prop} {cw : Cond} {ad : Nat → Nat} {cy : Nat → ClassId} {ee : EE} {st : StT} {own : String}
theorem krX11_180_X9_drop {n : Nat}  {q : StT} (F : CallFix p m c cc nL s args (cw :: Gw) RX11) (K : va_K D vwCl (tyL cy) s) (E : EV ee A s s.heap) (hA : ∀ q, s.heap.size ≤ q → A q) (Z : ZG D (wC ad cy st) A s H locs) (hf : f_X9_drop n st = some q) (hR : 1 ≤ R.frames ∧ 20 ≤ R.locals) (hl : ls.size = nL) (hst : (rest.map fun v => v.category).sum ≤ 8) (hd : decode cc pc = .ok (.invokevirtual 180, 3)) (kk : ∀ (H1 : Heap) (locs1 : List Loc), ZG D (wC ad cy q) A s H1 locs1 → W p l e R s m args below meth c H1 locs1 0 0 Q (F0 m (pc + 3) ls (rest))) : W p l e R s m args below meth c H locs 0 0 Q (F0 m pc ls (.ref (ad 58) :: rest)) :=
  call_V (q := (RX9, TX9, 6)) (n := 0) (As := []) (rv := none) 58 9 F K E hA Z (c_X9_drop (l := l) (D := D) (ad := ad) (cy := cy) (ee := ee) hf) ⟨wd872, wd871, wd873, wd874, wd319⟩ (by decide +kernel) rfl rfl hR rfl hl hst hd kk
end
set_option maxRecDepth 100000 in
set_option maxHeartbeats 4000000 in
theorem c_X11_clear {l : Launch} {D : va_G} {ad : Nat → Nat} {cy : Nat → ClassId} {ee : EE} {n : Nat} {st : StT} {res : (Int32 × StT)} (hf : f_X11_clear n st = some res) : CT l yX11_clear cX11_clear 2 (some .int) 1 20 D cy ee (wC ad cy st) (wC ad cy res.2) [.ref (ad 0)] (some (.int res.1)) := by
  refine CT.of (by decide +kernel) (Nat.le_of_ble_eq_true rfl) ?_
  intro p e s m args below meth c A F hr hk K E hA Z ls hl
  have hl : lv_has ls 2 [(0, .ref (ad 0))] := hl
  have hx := F.1
  have hb := F.2.1
  unfold f_X11_clear at hf
  refine lv_aload_n hx hb dX11_clear_0 rfl (lv_at hl 0 rfl) ?_
  refine grX11_77_0 F K Z dX11_clear_1 ?_
  obtain ⟨q4, h4, hf⟩ := bind_some hf
  refine krX11_108_X9_many F K E hA Z h4 ⟨Nat.le_of_ble_eq_true rfl, Nat.le_of_ble_eq_true rfl⟩ hl.1 (Nat.le_of_ble_eq_true rfl) dX11_clear_4 (fun H locs Z => ?_)
  refine lv_istore_n (lv' := [(1, .int q4.1), (0, .ref (ad 0))]) hx hb dX11_clear_7 rfl hl (by decide) rfl (fun ls hl => ?_)
  refine lv_aload_n hx hb dX11_clear_8 rfl (lv_at hl 1 rfl) ?_
  refine grX11_77_0 F K Z dX11_clear_9 ?_
  obtain ⟨q12, h12, hf⟩ := bind_some hf
  refine krX11_180_X9_drop F K E hA Z h12 ⟨Nat.le_of_ble_eq_true rfl, Nat.le_of_ble_eq_true rfl⟩ hl.1 (Nat.le_of_ble_eq_true rfl) dX11_clear_12 (fun H locs Z => ?_)
  refine lv_iload_n hx hb dX11_clear_15 rfl (lv_at hl 0 rfl) ?_
  have hf := Option.some.inj hf
  subst hf
  exact ret_i F hr hk Z dX11_clear_16
def f_X11_world (n : Nat) (st : StT) (x1 : Int32) : Option (Int32 × StT) := (f_X9_has n st x1).bind fun q5 => (if q5.1 = 0 then (some ((-1 : Int32), q5.2)) else ((f_X9_grow n q5.2 x1).bind fun q16 => (some (q16.1, q16.2))))
theorem wd875 : Cond.methodLink RX11 182 yX9_grow ∈ Gw := gT5 (List.mem_of_getElem? (i := 230) rfl) rfl
theorem wd876 : Cond.code yX9_grow prog_11_method_6_code 2 (some .int) ∈ Gw := gT5 (List.mem_of_getElem? (i := 233) rfl) rfl
theorem wd877 : Cond.instanceMethod yX9_grow ∈ Gw := gT5 (List.mem_of_getElem? (i := 231) rfl) rfl
theorem wd878 : Cond.selects RX9 yX9_grow yX9_grow ∈ Gw := gT5 (List.mem_of_getElem? (i := 232) rfl) rfl
theorem wd879 : Cond.methodLink RX11 181 yX9_has ∈ Gw := gT5 (List.mem_of_getElem? (i := 226) rfl) rfl
section
variable {p : Program} {l : Launch} {e : Env} {R : Room} {s : State} {m : MethodId} {args : Array Value} {below : List Frame} {meth : Method} {c : Code} {H : Heap} {locs : List Loc} {Q : State → Prop}
variable {cc : ByteArray} {nL pc : Nat} {ls : Array Slot} {rest : List Value} {D : va_G} {A : Nat → Prop} {cw : Cond} {ad : Nat → Nat} {cy : Nat → ClassId} {ee : EE} {st : StT} {own : String}
theorem krX11_182_X9_grow {n : Nat} {a0 : Int32} {q : (Int32 × StT)} (F : CallFix p m c cc nL s args (cw :: Gw) RX11) (K : va_K D vwCl (tyL cy) s) (E : EV ee A s s.heap) (hA : ∀ q, s.heap.size ≤ q → A q) (Z : ZG D (wC ad cy st) A s H locs) (hf : f_X9_grow n st a0 = some q) (hR : 2 ≤ R.frames ∧ 44 ≤ R.locals) (hl : ls.size = nL) (hst : (rest.map fun v => v.category).sum ≤ 8) (hd : decode cc pc = .ok (.invokevirtual 182, 3)) (kk : ∀ (H1 : Heap) (locs1 : List Loc), ZG D (wC ad cy q.2) A s H1 locs1 → W p l e R s m args below meth c H1 locs1 0 0 Q (F0 m (pc + 3) ls (.int q.1 :: rest))) : W p l e R s m args below meth c H locs 0 0 Q (F0 m pc ls (.int a0 :: .ref (ad 58) :: rest)) :=
  call_V (q := (RX9, TX9, 6)) (n := 1) (As := [.int a0]) (rv := some (.int q.1)) 58 9 F K E hA Z (c_X9_grow (l := l) (D := D) (ad := ad) (cy := cy) (ee := ee) hf) ⟨wd876, wd875, wd877, wd878, wd319⟩ (by decide +kernel) rfl rfl hR rfl hl hst hd kk
theorem krX11_181_X9_has {n : Nat} {a0 : Int32} {q : (Int32 × StT)} (F : CallFix p m c cc nL s args (cw :: Gw) RX11) (K : va_K D vwCl (tyL cy) s) (E : EV ee A s s.heap) (hA : ∀ q, s.heap.size ≤ q → A q) (Z : ZG D (wC ad cy st) A s H locs) (hf : f_X9_has n st a0 = some q) (hR : 1 ≤ R.frames ∧ 21 ≤ R.locals) (hl : ls.size = nL) (hst : (rest.map fun v => v.category).sum ≤ 8) (hd : decode cc pc = .ok (.invokevirtual 181, 3)) (kk : ∀ (H1 : Heap) (locs1 : List Loc), ZG D (wC ad cy q.2) A s H1 locs1 → W p l e R s m args below meth c H1 locs1 0 0 Q (F0 m (pc + 3) ls (.int q.1 :: rest))) : W p l e R s m args below meth c H locs 0 0 Q (F0 m pc ls (.int a0 :: .ref (ad 58) :: rest)) :=
  call_V (q := (RX9, TX9, 6)) (n := 1) (As := [.int a0]) (rv := some (.int q.1)) 58 9 F K E hA Z (c_X9_has (l := l) (D := D) (ad := ad) (cy := cy) (ee := ee) hf) ⟨wd316, wd879, wd317, wd318, wd319⟩ (by decide +kernel) rfl rfl hR rfl hl hst hd kk
end
set_option maxRecDepth 100000 in
set_option maxHeartbeats 4000000 in
theorem c_X11_world {l : Launch} {D : va_G} {ad : Nat → Nat} {cy : Nat → ClassId} {ee : EE} {n : Nat} {st : StT} {x1 : Int32} {res : (Int32 × StT)} (hf : f_X11_world n st x1 = some res) : CT l yX11_world cX11_world 2 (some .int) 2 44 D cy ee (wC ad cy st) (wC ad cy res.2) [.ref (ad 0), .int x1] (some (.int res.1)) := by
  refine CT.of (by decide +kernel) (Nat.le_of_ble_eq_true rfl) ?_
  intro p e s m args below meth c A F hr hk K E hA Z ls hl
  have hl : lv_has ls 2 [(0, .ref (ad 0)), (1, .int x1)] := hl
  have hx := F.1
  have hb := F.2.1
  unfold f_X11_world at hf
  refine lv_aload_n hx hb dX11_world_0 rfl (lv_at hl 0 rfl) ?_
  refine grX11_77_0 F K Z dX11_world_1 ?_
  refine lv_iload_n hx hb dX11_world_4 rfl (lv_at hl 1 rfl) ?_
  obtain ⟨q5, h5, hf⟩ := bind_some hf
  refine krX11_181_X9_has F K E hA Z h5 ⟨Nat.le_of_ble_eq_true rfl, Nat.le_of_ble_eq_true rfl⟩ hl.1 (Nat.le_of_ble_eq_true rfl) dX11_world_5 (fun H locs Z => ?_)
  refine lv_if_eq (tgt := 22) hx hb dX11_world_8 (by decide) (fun c8 => ?_) (fun c8 => ?_)
  · have hf := if_t c8 hf
    refine lv_iconst (v := -1) hx hb dX11_world_22 (by decide) ?_
    have hf := Option.some.inj hf
    subst hf
    exact ret_i F hr hk Z dX11_world_23
  have hf := if_f c8 hf
  refine lv_aload_n hx hb dX11_world_11 rfl (lv_at hl 0 rfl) ?_
  refine grX11_77_0 F K Z dX11_world_12 ?_
  refine lv_iload_n hx hb dX11_world_15 rfl (lv_at hl 1 rfl) ?_
  obtain ⟨q16, h16, hf⟩ := bind_some hf
  refine krX11_182_X9_grow F K E hA Z h16 ⟨Nat.le_of_ble_eq_true rfl, Nat.le_of_ble_eq_true rfl⟩ hl.1 (Nat.le_of_ble_eq_true rfl) dX11_world_16 (fun H locs Z => ?_)
  refine lv_goto (tgt := 23) hx hb dX11_world_19 (by decide) ?_
  have hf := Option.some.inj hf
  subst hf
  exact ret_i F hr hk Z dX11_world_23
def f_X11_force (n : Nat) (st : StT) (x1 : Int32) (x2 : Int32) : Option (Int32 × StT) := (f_X9_has n st x1).bind fun q5 => (if q5.1 = 0 then (some ((-1 : Int32), q5.2)) else ((f_X1_hasVariable_F0 n q5.2 x2).bind fun q16 => (if q16.1 = 0 then (some ((-1 : Int32), q16.2)) else ((f_X9_forceAbove n q16.2 x1 x2).bind fun q30 => (some (q30.1, q30.2))))))
theorem wd880 : Cond.methodLink RX11 188 yX9_forceAbove ∈ Gw := gT6 (List.mem_of_getElem? (i := 0) rfl) rfl
theorem wd881 : Cond.code yX9_forceAbove prog_11_method_12_code 7 (some .int) ∈ Gw := gT6 (List.mem_of_getElem? (i := 3) rfl) rfl
theorem wd882 : Cond.instanceMethod yX9_forceAbove ∈ Gw := gT6 (List.mem_of_getElem? (i := 1) rfl) rfl
theorem wd883 : Cond.selects RX9 yX9_forceAbove yX9_forceAbove ∈ Gw := gT6 (List.mem_of_getElem? (i := 2) rfl) rfl
theorem wd884 : Cond.methodLink RX11 185 yX1_hasVariable ∈ Gw := gT5 (List.mem_of_getElem? (i := 239) rfl) rfl
section
variable {p : Program} {l : Launch} {e : Env} {R : Room} {s : State} {m : MethodId} {args : Array Value} {below : List Frame} {meth : Method} {c : Code} {H : Heap} {locs : List Loc} {Q : State → Prop}
variable {cc : ByteArray} {nL pc : Nat} {ls : Array Slot} {rest : List Value} {D : va_G} {A : Nat → Prop} {cw : Cond} {ad : Nat → Nat} {cy : Nat → ClassId} {ee : EE} {st : StT} {own : String}
theorem krX11_188_X9_forceAbove {n : Nat} {a0 : Int32} {a1 : Int32} {q : (Int32 × StT)} (F : CallFix p m c cc nL s args (cw :: Gw) RX11) (K : va_K D vwCl (tyL cy) s) (E : EV ee A s s.heap) (hA : ∀ q, s.heap.size ≤ q → A q) (Z : ZG D (wC ad cy st) A s H locs) (hf : f_X9_forceAbove n st a0 a1 = some q) (hR : 3 ≤ R.frames ∧ 71 ≤ R.locals) (hl : ls.size = nL) (hst : (rest.map fun v => v.category).sum ≤ 8) (hd : decode cc pc = .ok (.invokevirtual 188, 3)) (kk : ∀ (H1 : Heap) (locs1 : List Loc), ZG D (wC ad cy q.2) A s H1 locs1 → W p l e R s m args below meth c H1 locs1 0 0 Q (F0 m (pc + 3) ls (.int q.1 :: rest))) : W p l e R s m args below meth c H locs 0 0 Q (F0 m pc ls (.int a1 :: .int a0 :: .ref (ad 58) :: rest)) :=
  call_V (q := (RX9, TX9, 6)) (n := 2) (As := [.int a0, .int a1]) (rv := some (.int q.1)) 58 9 F K E hA Z (c_X9_forceAbove (l := l) (D := D) (ad := ad) (cy := cy) (ee := ee) hf) ⟨wd881, wd880, wd882, wd883, wd319⟩ (by decide +kernel) rfl rfl hR rfl hl hst hd kk
theorem krX11_185_X1_hasVariable_F0 {n : Nat} {a0 : Int32} {q : (Int32 × StT)} (F : CallFix p m c cc nL s args (cw :: Gw) RX11) (K : va_K D vwCl (tyL cy) s) (E : EV ee A s s.heap) (hA : ∀ q, s.heap.size ≤ q → A q) (Z : ZG D (wC ad cy st) A s H locs) (hf : f_X1_hasVariable_F0 n st a0 = some q) (hR : 1 ≤ R.frames ∧ 21 ≤ R.locals) (hl : ls.size = nL) (hst : (rest.map fun v => v.category).sum ≤ 8) (hd : decode cc pc = .ok (.invokevirtual 185, 3)) (kk : ∀ (H1 : Heap) (locs1 : List Loc), ZG D (wC ad cy q.2) A s H1 locs1 → W p l e R s m args below meth c H1 locs1 0 0 Q (F0 m (pc + 3) ls (.int q.1 :: rest))) : W p l e R s m args below meth c H locs 0 0 Q (F0 m pc ls (.int a0 :: .ref (ad 4) :: rest)) :=
  call_V (q := (RX1, TX1, 9)) (n := 1) (As := [.int a0]) (rv := some (.int q.1)) 4 1 F K E hA Z (c_X1_hasVariable_F0 (l := l) (D := D) (ad := ad) (cy := cy) (ee := ee) hf) ⟨wd35, wd884, wd36, wd37, wd17⟩ (by decide +kernel) rfl rfl hR rfl hl hst hd kk
end
set_option maxRecDepth 100000 in
set_option maxHeartbeats 4000000 in
theorem c_X11_force {l : Launch} {D : va_G} {ad : Nat → Nat} {cy : Nat → ClassId} {ee : EE} {n : Nat} {st : StT} {x1 : Int32} {x2 : Int32} {res : (Int32 × StT)} (hf : f_X11_force n st x1 x2 = some res) : CT l yX11_force cX11_force 3 (some .int) 3 71 D cy ee (wC ad cy st) (wC ad cy res.2) [.ref (ad 0), .int x1, .int x2] (some (.int res.1)) := by
  refine CT.of (by decide +kernel) (Nat.le_of_ble_eq_true rfl) ?_
  intro p e s m args below meth c A F hr hk K E hA Z ls hl
  have hl : lv_has ls 3 [(0, .ref (ad 0)), (1, .int x1), (2, .int x2)] := hl
  have hx := F.1
  have hb := F.2.1
  unfold f_X11_force at hf
  refine lv_aload_n hx hb dX11_force_0 rfl (lv_at hl 0 rfl) ?_
  refine grX11_77_0 F K Z dX11_force_1 ?_
  refine lv_iload_n hx hb dX11_force_4 rfl (lv_at hl 1 rfl) ?_
  obtain ⟨q5, h5, hf⟩ := bind_some hf
  refine krX11_181_X9_has F K E hA Z h5 ⟨Nat.le_of_ble_eq_true rfl, Nat.le_of_ble_eq_true rfl⟩ hl.1 (Nat.le_of_ble_eq_true rfl) dX11_force_5 (fun H locs Z => ?_)
  refine lv_if_eq (tgt := 22) hx hb dX11_force_8 (by decide) (fun c8 => ?_) (fun c8 => ?_)
  · have hf := if_t c8 hf
    refine lv_iconst (v := -1) hx hb dX11_force_22 (by decide) ?_
    have hf := Option.some.inj hf
    subst hf
    exact ret_i F hr hk Z dX11_force_23
  have hf := if_f c8 hf
  refine lv_aload_n hx hb dX11_force_11 rfl (lv_at hl 0 rfl) ?_
  refine grX11_25_0 F K Z dX11_force_12 ?_
  refine lv_iload_n hx hb dX11_force_15 rfl (lv_at hl 2 rfl) ?_
  obtain ⟨q16, h16, hf⟩ := bind_some hf
  refine krX11_185_X1_hasVariable_F0 F K E hA Z h16 ⟨Nat.le_of_ble_eq_true rfl, Nat.le_of_ble_eq_true rfl⟩ hl.1 (Nat.le_of_ble_eq_true rfl) dX11_force_16 (fun H locs Z => ?_)
  refine lv_if_ne (tgt := 24) hx hb dX11_force_19 (by decide) (fun c19 => ?_) (fun c19 => ?_)
  · have hf := if_f c19 hf
    refine lv_aload_n hx hb dX11_force_24 rfl (lv_at hl 0 rfl) ?_
    refine grX11_77_0 F K Z dX11_force_25 ?_
    refine lv_iload_n hx hb dX11_force_28 rfl (lv_at hl 1 rfl) ?_
    refine lv_iload_n hx hb dX11_force_29 rfl (lv_at hl 2 rfl) ?_
    obtain ⟨q30, h30, hf⟩ := bind_some hf
    refine krX11_188_X9_forceAbove F K E hA Z h30 ⟨Nat.le_of_ble_eq_true rfl, Nat.le_of_ble_eq_true rfl⟩ hl.1 (Nat.le_of_ble_eq_true rfl) dX11_force_30 (fun H locs Z => ?_)
    have hf := Option.some.inj hf
    subst hf
    exact ret_i F hr hk Z dX11_force_33
  have hf := if_t c19 hf
  refine lv_iconst (v := -1) hx hb dX11_force_22 (by decide) ?_
  have hf := Option.some.inj hf
  subst hf
  exact ret_i F hr hk Z dX11_force_23
def f_J13_bitCount_95d88 (n : Nat) (st : StT) (x0 : Int64) : Option (Int32 × StT) := some ((((((((((x0 - ((x0.toUInt64 >>> ((1 : Int32).toInt64.toUInt64 &&& Int64.toUInt64 63)).toInt64 &&& (6148914691236517205 : Int64))) &&& (3689348814741910323 : Int64)) + (((x0 - ((x0.toUInt64 >>> ((1 : Int32).toInt64.toUInt64 &&& Int64.toUInt64 63)).toInt64 &&& (6148914691236517205 : Int64))).toUInt64 >>> ((2 : Int32).toInt64.toUInt64 &&& Int64.toUInt64 63)).toInt64 &&& (3689348814741910323 : Int64))) + ((((x0 - ((x0.toUInt64 >>> ((1 : Int32).toInt64.toUInt64 &&& Int64.toUInt64 63)).toInt64 &&& (6148914691236517205 : Int64))) &&& (3689348814741910323 : Int64)) + (((x0 - ((x0.toUInt64 >>> ((1 : Int32).toInt64.toUInt64 &&& Int64.toUInt64 63)).toInt64 &&& (6148914691236517205 : Int64))).toUInt64 >>> ((2 : Int32).toInt64.toUInt64 &&& Int64.toUInt64 63)).toInt64 &&& (3689348814741910323 : Int64))).toUInt64 >>> ((4 : Int32).toInt64.toUInt64 &&& Int64.toUInt64 63)).toInt64) &&& (1085102592571150095 : Int64)) + ((((((x0 - ((x0.toUInt64 >>> ((1 : Int32).toInt64.toUInt64 &&& Int64.toUInt64 63)).toInt64 &&& (6148914691236517205 : Int64))) &&& (3689348814741910323 : Int64)) + (((x0 - ((x0.toUInt64 >>> ((1 : Int32).toInt64.toUInt64 &&& Int64.toUInt64 63)).toInt64 &&& (6148914691236517205 : Int64))).toUInt64 >>> ((2 : Int32).toInt64.toUInt64 &&& Int64.toUInt64 63)).toInt64 &&& (3689348814741910323 : Int64))) + ((((x0 - ((x0.toUInt64 >>> ((1 : Int32).toInt64.toUInt64 &&& Int64.toUInt64 63)).toInt64 &&& (6148914691236517205 : Int64))) &&& (3689348814741910323 : Int64)) + (((x0 - ((x0.toUInt64 >>> ((1 : Int32).toInt64.toUInt64 &&& Int64.toUInt64 63)).toInt64 &&& (6148914691236517205 : Int64))).toUInt64 >>> ((2 : Int32).toInt64.toUInt64 &&& Int64.toUInt64 63)).toInt64 &&& (3689348814741910323 : Int64))).toUInt64 >>> ((4 : Int32).toInt64.toUInt64 &&& Int64.toUInt64 63)).toInt64) &&& (1085102592571150095 : Int64)).toUInt64 >>> ((8 : Int32).toInt64.toUInt64 &&& Int64.toUInt64 63)).toInt64) + (((((((x0 - ((x0.toUInt64 >>> ((1 : Int32).toInt64.toUInt64 &&& Int64.toUInt64 63)).toInt64 &&& (6148914691236517205 : Int64))) &&& (3689348814741910323 : Int64)) + (((x0 - ((x0.toUInt64 >>> ((1 : Int32).toInt64.toUInt64 &&& Int64.toUInt64 63)).toInt64 &&& (6148914691236517205 : Int64))).toUInt64 >>> ((2 : Int32).toInt64.toUInt64 &&& Int64.toUInt64 63)).toInt64 &&& (3689348814741910323 : Int64))) + ((((x0 - ((x0.toUInt64 >>> ((1 : Int32).toInt64.toUInt64 &&& Int64.toUInt64 63)).toInt64 &&& (6148914691236517205 : Int64))) &&& (3689348814741910323 : Int64)) + (((x0 - ((x0.toUInt64 >>> ((1 : Int32).toInt64.toUInt64 &&& Int64.toUInt64 63)).toInt64 &&& (6148914691236517205 : Int64))).toUInt64 >>> ((2 : Int32).toInt64.toUInt64 &&& Int64.toUInt64 63)).toInt64 &&& (3689348814741910323 : Int64))).toUInt64 >>> ((4 : Int32).toInt64.toUInt64 &&& Int64.toUInt64 63)).toInt64) &&& (1085102592571150095 : Int64)) + ((((((x0 - ((x0.toUInt64 >>> ((1 : Int32).toInt64.toUInt64 &&& Int64.toUInt64 63)).toInt64 &&& (6148914691236517205 : Int64))) &&& (3689348814741910323 : Int64)) + (((x0 - ((x0.toUInt64 >>> ((1 : Int32).toInt64.toUInt64 &&& Int64.toUInt64 63)).toInt64 &&& (6148914691236517205 : Int64))).toUInt64 >>> ((2 : Int32).toInt64.toUInt64 &&& Int64.toUInt64 63)).toInt64 &&& (3689348814741910323 : Int64))) + ((((x0 - ((x0.toUInt64 >>> ((1 : Int32).toInt64.toUInt64 &&& Int64.toUInt64 63)).toInt64 &&& (6148914691236517205 : Int64))) &&& (3689348814741910323 : Int64)) + (((x0 - ((x0.toUInt64 >>> ((1 : Int32).toInt64.toUInt64 &&& Int64.toUInt64 63)).toInt64 &&& (6148914691236517205 : Int64))).toUInt64 >>> ((2 : Int32).toInt64.toUInt64 &&& Int64.toUInt64 63)).toInt64 &&& (3689348814741910323 : Int64))).toUInt64 >>> ((4 : Int32).toInt64.toUInt64 &&& Int64.toUInt64 63)).toInt64) &&& (1085102592571150095 : Int64)).toUInt64 >>> ((8 : Int32).toInt64.toUInt64 &&& Int64.toUInt64 63)).toInt64).toUInt64 >>> ((16 : Int32).toInt64.toUInt64 &&& Int64.toUInt64 63)).toInt64) + ((((((((x0 - ((x0.toUInt64 >>> ((1 : Int32).toInt64.toUInt64 &&& Int64.toUInt64 63)).toInt64 &&& (6148914691236517205 : Int64))) &&& (3689348814741910323 : Int64)) + (((x0 - ((x0.toUInt64 >>> ((1 : Int32).toInt64.toUInt64 &&& Int64.toUInt64 63)).toInt64 &&& (6148914691236517205 : Int64))).toUInt64 >>> ((2 : Int32).toInt64.toUInt64 &&& Int64.toUInt64 63)).toInt64 &&& (3689348814741910323 : Int64))) + ((((x0 - ((x0.toUInt64 >>> ((1 : Int32).toInt64.toUInt64 &&& Int64.toUInt64 63)).toInt64 &&& (6148914691236517205 : Int64))) &&& (3689348814741910323 : Int64)) + (((x0 - ((x0.toUInt64 >>> ((1 : Int32).toInt64.toUInt64 &&& Int64.toUInt64 63)).toInt64 &&& (6148914691236517205 : Int64))).toUInt64 >>> ((2 : Int32).toInt64.toUInt64 &&& Int64.toUInt64 63)).toInt64 &&& (3689348814741910323 : Int64))).toUInt64 >>> ((4 : Int32).toInt64.toUInt64 &&& Int64.toUInt64 63)).toInt64) &&& (1085102592571150095 : Int64)) + ((((((x0 - ((x0.toUInt64 >>> ((1 : Int32).toInt64.toUInt64 &&& Int64.toUInt64 63)).toInt64 &&& (6148914691236517205 : Int64))) &&& (3689348814741910323 : Int64)) + (((x0 - ((x0.toUInt64 >>> ((1 : Int32).toInt64.toUInt64 &&& Int64.toUInt64 63)).toInt64 &&& (6148914691236517205 : Int64))).toUInt64 >>> ((2 : Int32).toInt64.toUInt64 &&& Int64.toUInt64 63)).toInt64 &&& (3689348814741910323 : Int64))) + ((((x0 - ((x0.toUInt64 >>> ((1 : Int32).toInt64.toUInt64 &&& Int64.toUInt64 63)).toInt64 &&& (6148914691236517205 : Int64))) &&& (3689348814741910323 : Int64)) + (((x0 - ((x0.toUInt64 >>> ((1 : Int32).toInt64.toUInt64 &&& Int64.toUInt64 63)).toInt64 &&& (6148914691236517205 : Int64))).toUInt64 >>> ((2 : Int32).toInt64.toUInt64 &&& Int64.toUInt64 63)).toInt64 &&& (3689348814741910323 : Int64))).toUInt64 >>> ((4 : Int32).toInt64.toUInt64 &&& Int64.toUInt64 63)).toInt64) &&& (1085102592571150095 : Int64)).toUInt64 >>> ((8 : Int32).toInt64.toUInt64 &&& Int64.toUInt64 63)).toInt64) + (((((((x0 - ((x0.toUInt64 >>> ((1 : Int32).toInt64.toUInt64 &&& Int64.toUInt64 63)).toInt64 &&& (6148914691236517205 : Int64))) &&& (3689348814741910323 : Int64)) + (((x0 - ((x0.toUInt64 >>> ((1 : Int32).toInt64.toUInt64 &&& Int64.toUInt64 63)).toInt64 &&& (6148914691236517205 : Int64))).toUInt64 >>> ((2 : Int32).toInt64.toUInt64 &&& Int64.toUInt64 63)).toInt64 &&& (3689348814741910323 : Int64))) + ((((x0 - ((x0.toUInt64 >>> ((1 : Int32).toInt64.toUInt64 &&& Int64.toUInt64 63)).toInt64 &&& (6148914691236517205 : Int64))) &&& (3689348814741910323 : Int64)) + (((x0 - ((x0.toUInt64 >>> ((1 : Int32).toInt64.toUInt64 &&& Int64.toUInt64 63)).toInt64 &&& (6148914691236517205 : Int64))).toUInt64 >>> ((2 : Int32).toInt64.toUInt64 &&& Int64.toUInt64 63)).toInt64 &&& (3689348814741910323 : Int64))).toUInt64 >>> ((4 : Int32).toInt64.toUInt64 &&& Int64.toUInt64 63)).toInt64) &&& (1085102592571150095 : Int64)) + ((((((x0 - ((x0.toUInt64 >>> ((1 : Int32).toInt64.toUInt64 &&& Int64.toUInt64 63)).toInt64 &&& (6148914691236517205 : Int64))) &&& (3689348814741910323 : Int64)) + (((x0 - ((x0.toUInt64 >>> ((1 : Int32).toInt64.toUInt64 &&& Int64.toUInt64 63)).toInt64 &&& (6148914691236517205 : Int64))).toUInt64 >>> ((2 : Int32).toInt64.toUInt64 &&& Int64.toUInt64 63)).toInt64 &&& (3689348814741910323 : Int64))) + ((((x0 - ((x0.toUInt64 >>> ((1 : Int32).toInt64.toUInt64 &&& Int64.toUInt64 63)).toInt64 &&& (6148914691236517205 : Int64))) &&& (3689348814741910323 : Int64)) + (((x0 - ((x0.toUInt64 >>> ((1 : Int32).toInt64.toUInt64 &&& Int64.toUInt64 63)).toInt64 &&& (6148914691236517205 : Int64))).toUInt64 >>> ((2 : Int32).toInt64.toUInt64 &&& Int64.toUInt64 63)).toInt64 &&& (3689348814741910323 : Int64))).toUInt64 >>> ((4 : Int32).toInt64.toUInt64 &&& Int64.toUInt64 63)).toInt64) &&& (1085102592571150095 : Int64)).toUInt64 >>> ((8 : Int32).toInt64.toUInt64 &&& Int64.toUInt64 63)).toInt64).toUInt64 >>> ((16 : Int32).toInt64.toUInt64 &&& Int64.toUInt64 63)).toInt64).toUInt64 >>> ((32 : Int32).toInt64.toUInt64 &&& Int64.toUInt64 63)).toInt64).toInt32 &&& (127 : Int32)), st)
theorem wd885 : Cond.constantLong RJ13 314 (6148914691236517205) ∈ Gw := gT6 (List.mem_of_getElem? (i := 27) rfl) rfl
theorem wd886 : Cond.constantLong RJ13 316 (3689348814741910323) ∈ Gw := gT6 (List.mem_of_getElem? (i := 28) rfl) rfl
theorem wd887 : Cond.constantLong RJ13 318 (1085102592571150095) ∈ Gw := gT6 (List.mem_of_getElem? (i := 29) rfl) rfl
set_option maxRecDepth 100000 in
set_option maxHeartbeats 4000000 in
theorem c_J13_bitCount_95d88 {l : Launch} {D : va_G} {ad : Nat → Nat} {cy : Nat → ClassId} {ee : EE} {n : Nat} {st : StT} {x0 : Int64} {res : (Int32 × StT)} (hf : f_J13_bitCount_95d88 n st x0 = some res) : CT l yJ13_bitCount_95d88 cJ13_bitCount_95d88 2 (some .int) 0 0 D cy ee (wC ad cy st) (wC ad cy res.2) [.long x0] (some (.int res.1)) := by
  refine CT.of (by decide +kernel) (Nat.le_of_ble_eq_true rfl) ?_
  intro p e s m args below meth c A F hr hk K E hA Z ls hl
  have hl : lv_has ls 2 [(0, .long x0)] := hl
  have hx := F.1
  have hb := F.2.1
  unfold f_J13_bitCount_95d88 at hf
  refine lv_lload_n hx hb dJ13_bitCount_95d88_0 rfl (lv_at hl 0 rfl) ?_
  refine lv_lload_n hx hb dJ13_bitCount_95d88_1 rfl (lv_at hl 0 rfl) ?_
  refine lv_iconst (v := 1) hx hb dJ13_bitCount_95d88_2 (by decide) ?_
  refine lv_lushr hx hb dJ13_bitCount_95d88_3 rfl ?_
  refine lv_ldc2 (v := 6148914691236517205) hx hb F.2.2.2.1 (F.2.2.2.2 _ (List.mem_cons_of_mem _ wd885)) dJ13_bitCount_95d88_4 ?_
  refine lv_land hx hb dJ13_bitCount_95d88_7 ?_
  refine lv_lsub hx hb dJ13_bitCount_95d88_8 ?_
  refine lv_lstore_n (lv' := [(0, .long (x0 - ((x0.toUInt64 >>> ((1 : Int32).toInt64.toUInt64 &&& Int64.toUInt64 63)).toInt64 &&& (6148914691236517205 : Int64))))]) hx hb dJ13_bitCount_95d88_9 rfl hl (by decide) rfl (fun ls hl => ?_)
  refine lv_lload_n hx hb dJ13_bitCount_95d88_10 rfl (lv_at hl 0 rfl) ?_
  refine lv_ldc2 (v := 3689348814741910323) hx hb F.2.2.2.1 (F.2.2.2.2 _ (List.mem_cons_of_mem _ wd886)) dJ13_bitCount_95d88_11 ?_
  refine lv_land hx hb dJ13_bitCount_95d88_14 ?_
  refine lv_lload_n hx hb dJ13_bitCount_95d88_15 rfl (lv_at hl 0 rfl) ?_
  refine lv_iconst (v := 2) hx hb dJ13_bitCount_95d88_16 (by decide) ?_
  refine lv_lushr hx hb dJ13_bitCount_95d88_17 rfl ?_
  refine lv_ldc2 (v := 3689348814741910323) hx hb F.2.2.2.1 (F.2.2.2.2 _ (List.mem_cons_of_mem _ wd886)) dJ13_bitCount_95d88_18 ?_
  refine lv_land hx hb dJ13_bitCount_95d88_21 ?_
  refine lv_ladd hx hb dJ13_bitCount_95d88_22 ?_
  refine lv_lstore_n (lv' := [(0, .long (((x0 - ((x0.toUInt64 >>> ((1 : Int32).toInt64.toUInt64 &&& Int64.toUInt64 63)).toInt64 &&& (6148914691236517205 : Int64))) &&& (3689348814741910323 : Int64)) + (((x0 - ((x0.toUInt64 >>> ((1 : Int32).toInt64.toUInt64 &&& Int64.toUInt64 63)).toInt64 &&& (6148914691236517205 : Int64))).toUInt64 >>> ((2 : Int32).toInt64.toUInt64 &&& Int64.toUInt64 63)).toInt64 &&& (3689348814741910323 : Int64))))]) hx hb dJ13_bitCount_95d88_23 rfl hl (by decide) rfl (fun ls hl => ?_)
  refine lv_lload_n hx hb dJ13_bitCount_95d88_24 rfl (lv_at hl 0 rfl) ?_
  refine lv_lload_n hx hb dJ13_bitCount_95d88_25 rfl (lv_at hl 0 rfl) ?_
  refine lv_iconst (v := 4) hx hb dJ13_bitCount_95d88_26 (by decide) ?_
  refine lv_lushr hx hb dJ13_bitCount_95d88_27 rfl ?_
  refine lv_ladd hx hb dJ13_bitCount_95d88_28 ?_
  refine lv_ldc2 (v := 1085102592571150095) hx hb F.2.2.2.1 (F.2.2.2.2 _ (List.mem_cons_of_mem _ wd887)) dJ13_bitCount_95d88_29 ?_
  refine lv_land hx hb dJ13_bitCount_95d88_32 ?_
  refine lv_lstore_n (lv' := [(0, .long (((((x0 - ((x0.toUInt64 >>> ((1 : Int32).toInt64.toUInt64 &&& Int64.toUInt64 63)).toInt64 &&& (6148914691236517205 : Int64))) &&& (3689348814741910323 : Int64)) + (((x0 - ((x0.toUInt64 >>> ((1 : Int32).toInt64.toUInt64 &&& Int64.toUInt64 63)).toInt64 &&& (6148914691236517205 : Int64))).toUInt64 >>> ((2 : Int32).toInt64.toUInt64 &&& Int64.toUInt64 63)).toInt64 &&& (3689348814741910323 : Int64))) + ((((x0 - ((x0.toUInt64 >>> ((1 : Int32).toInt64.toUInt64 &&& Int64.toUInt64 63)).toInt64 &&& (6148914691236517205 : Int64))) &&& (3689348814741910323 : Int64)) + (((x0 - ((x0.toUInt64 >>> ((1 : Int32).toInt64.toUInt64 &&& Int64.toUInt64 63)).toInt64 &&& (6148914691236517205 : Int64))).toUInt64 >>> ((2 : Int32).toInt64.toUInt64 &&& Int64.toUInt64 63)).toInt64 &&& (3689348814741910323 : Int64))).toUInt64 >>> ((4 : Int32).toInt64.toUInt64 &&& Int64.toUInt64 63)).toInt64) &&& (1085102592571150095 : Int64)))]) hx hb dJ13_bitCount_95d88_33 rfl hl (by decide) rfl (fun ls hl => ?_)
  refine lv_lload_n hx hb dJ13_bitCount_95d88_34 rfl (lv_at hl 0 rfl) ?_
  refine lv_lload_n hx hb dJ13_bitCount_95d88_35 rfl (lv_at hl 0 rfl) ?_
  refine lv_bipush (v := 8) hx hb dJ13_bitCount_95d88_36 (by decide) ?_
  refine lv_lushr hx hb dJ13_bitCount_95d88_38 rfl ?_
  refine lv_ladd hx hb dJ13_bitCount_95d88_39 ?_
  refine lv_lstore_n (lv' := [(0, .long ((((((x0 - ((x0.toUInt64 >>> ((1 : Int32).toInt64.toUInt64 &&& Int64.toUInt64 63)).toInt64 &&& (6148914691236517205 : Int64))) &&& (3689348814741910323 : Int64)) + (((x0 - ((x0.toUInt64 >>> ((1 : Int32).toInt64.toUInt64 &&& Int64.toUInt64 63)).toInt64 &&& (6148914691236517205 : Int64))).toUInt64 >>> ((2 : Int32).toInt64.toUInt64 &&& Int64.toUInt64 63)).toInt64 &&& (3689348814741910323 : Int64))) + ((((x0 - ((x0.toUInt64 >>> ((1 : Int32).toInt64.toUInt64 &&& Int64.toUInt64 63)).toInt64 &&& (6148914691236517205 : Int64))) &&& (3689348814741910323 : Int64)) + (((x0 - ((x0.toUInt64 >>> ((1 : Int32).toInt64.toUInt64 &&& Int64.toUInt64 63)).toInt64 &&& (6148914691236517205 : Int64))).toUInt64 >>> ((2 : Int32).toInt64.toUInt64 &&& Int64.toUInt64 63)).toInt64 &&& (3689348814741910323 : Int64))).toUInt64 >>> ((4 : Int32).toInt64.toUInt64 &&& Int64.toUInt64 63)).toInt64) &&& (1085102592571150095 : Int64)) + ((((((x0 - ((x0.toUInt64 >>> ((1 : Int32).toInt64.toUInt64 &&& Int64.toUInt64 63)).toInt64 &&& (6148914691236517205 : Int64))) &&& (3689348814741910323 : Int64)) + (((x0 - ((x0.toUInt64 >>> ((1 : Int32).toInt64.toUInt64 &&& Int64.toUInt64 63)).toInt64 &&& (6148914691236517205 : Int64))).toUInt64 >>> ((2 : Int32).toInt64.toUInt64 &&& Int64.toUInt64 63)).toInt64 &&& (3689348814741910323 : Int64))) + ((((x0 - ((x0.toUInt64 >>> ((1 : Int32).toInt64.toUInt64 &&& Int64.toUInt64 63)).toInt64 &&& (6148914691236517205 : Int64))) &&& (3689348814741910323 : Int64)) + (((x0 - ((x0.toUInt64 >>> ((1 : Int32).toInt64.toUInt64 &&& Int64.toUInt64 63)).toInt64 &&& (6148914691236517205 : Int64))).toUInt64 >>> ((2 : Int32).toInt64.toUInt64 &&& Int64.toUInt64 63)).toInt64 &&& (3689348814741910323 : Int64))).toUInt64 >>> ((4 : Int32).toInt64.toUInt64 &&& Int64.toUInt64 63)).toInt64) &&& (1085102592571150095 : Int64)).toUInt64 >>> ((8 : Int32).toInt64.toUInt64 &&& Int64.toUInt64 63)).toInt64))]) hx hb dJ13_bitCount_95d88_40 rfl hl (by decide) rfl (fun ls hl => ?_)
  refine lv_lload_n hx hb dJ13_bitCount_95d88_41 rfl (lv_at hl 0 rfl) ?_
  refine lv_lload_n hx hb dJ13_bitCount_95d88_42 rfl (lv_at hl 0 rfl) ?_
  refine lv_bipush (v := 16) hx hb dJ13_bitCount_95d88_43 (by decide) ?_
  refine lv_lushr hx hb dJ13_bitCount_95d88_45 rfl ?_
  refine lv_ladd hx hb dJ13_bitCount_95d88_46 ?_
  refine lv_lstore_n (lv' := [(0, .long (((((((x0 - ((x0.toUInt64 >>> ((1 : Int32).toInt64.toUInt64 &&& Int64.toUInt64 63)).toInt64 &&& (6148914691236517205 : Int64))) &&& (3689348814741910323 : Int64)) + (((x0 - ((x0.toUInt64 >>> ((1 : Int32).toInt64.toUInt64 &&& Int64.toUInt64 63)).toInt64 &&& (6148914691236517205 : Int64))).toUInt64 >>> ((2 : Int32).toInt64.toUInt64 &&& Int64.toUInt64 63)).toInt64 &&& (3689348814741910323 : Int64))) + ((((x0 - ((x0.toUInt64 >>> ((1 : Int32).toInt64.toUInt64 &&& Int64.toUInt64 63)).toInt64 &&& (6148914691236517205 : Int64))) &&& (3689348814741910323 : Int64)) + (((x0 - ((x0.toUInt64 >>> ((1 : Int32).toInt64.toUInt64 &&& Int64.toUInt64 63)).toInt64 &&& (6148914691236517205 : Int64))).toUInt64 >>> ((2 : Int32).toInt64.toUInt64 &&& Int64.toUInt64 63)).toInt64 &&& (3689348814741910323 : Int64))).toUInt64 >>> ((4 : Int32).toInt64.toUInt64 &&& Int64.toUInt64 63)).toInt64) &&& (1085102592571150095 : Int64)) + ((((((x0 - ((x0.toUInt64 >>> ((1 : Int32).toInt64.toUInt64 &&& Int64.toUInt64 63)).toInt64 &&& (6148914691236517205 : Int64))) &&& (3689348814741910323 : Int64)) + (((x0 - ((x0.toUInt64 >>> ((1 : Int32).toInt64.toUInt64 &&& Int64.toUInt64 63)).toInt64 &&& (6148914691236517205 : Int64))).toUInt64 >>> ((2 : Int32).toInt64.toUInt64 &&& Int64.toUInt64 63)).toInt64 &&& (3689348814741910323 : Int64))) + ((((x0 - ((x0.toUInt64 >>> ((1 : Int32).toInt64.toUInt64 &&& Int64.toUInt64 63)).toInt64 &&& (6148914691236517205 : Int64))) &&& (3689348814741910323 : Int64)) + (((x0 - ((x0.toUInt64 >>> ((1 : Int32).toInt64.toUInt64 &&& Int64.toUInt64 63)).toInt64 &&& (6148914691236517205 : Int64))).toUInt64 >>> ((2 : Int32).toInt64.toUInt64 &&& Int64.toUInt64 63)).toInt64 &&& (3689348814741910323 : Int64))).toUInt64 >>> ((4 : Int32).toInt64.toUInt64 &&& Int64.toUInt64 63)).toInt64) &&& (1085102592571150095 : Int64)).toUInt64 >>> ((8 : Int32).toInt64.toUInt64 &&& Int64.toUInt64 63)).toInt64) + (((((((x0 - ((x0.toUInt64 >>> ((1 : Int32).toInt64.toUInt64 &&& Int64.toUInt64 63)).toInt64 &&& (6148914691236517205 : Int64))) &&& (3689348814741910323 : Int64)) + (((x0 - ((x0.toUInt64 >>> ((1 : Int32).toInt64.toUInt64 &&& Int64.toUInt64 63)).toInt64 &&& (6148914691236517205 : Int64))).toUInt64 >>> ((2 : Int32).toInt64.toUInt64 &&& Int64.toUInt64 63)).toInt64 &&& (3689348814741910323 : Int64))) + ((((x0 - ((x0.toUInt64 >>> ((1 : Int32).toInt64.toUInt64 &&& Int64.toUInt64 63)).toInt64 &&& (6148914691236517205 : Int64))) &&& (3689348814741910323 : Int64)) + (((x0 - ((x0.toUInt64 >>> ((1 : Int32).toInt64.toUInt64 &&& Int64.toUInt64 63)).toInt64 &&& (6148914691236517205 : Int64))).toUInt64 >>> ((2 : Int32).toInt64.toUInt64 &&& Int64.toUInt64 63)).toInt64 &&& (3689348814741910323 : Int64))).toUInt64 >>> ((4 : Int32).toInt64.toUInt64 &&& Int64.toUInt64 63)).toInt64) &&& (1085102592571150095 : Int64)) + ((((((x0 - ((x0.toUInt64 >>> ((1 : Int32).toInt64.toUInt64 &&& Int64.toUInt64 63)).toInt64 &&& (6148914691236517205 : Int64))) &&& (3689348814741910323 : Int64)) + (((x0 - ((x0.toUInt64 >>> ((1 : Int32).toInt64.toUInt64 &&& Int64.toUInt64 63)).toInt64 &&& (6148914691236517205 : Int64))).toUInt64 >>> ((2 : Int32).toInt64.toUInt64 &&& Int64.toUInt64 63)).toInt64 &&& (3689348814741910323 : Int64))) + ((((x0 - ((x0.toUInt64 >>> ((1 : Int32).toInt64.toUInt64 &&& Int64.toUInt64 63)).toInt64 &&& (6148914691236517205 : Int64))) &&& (3689348814741910323 : Int64)) + (((x0 - ((x0.toUInt64 >>> ((1 : Int32).toInt64.toUInt64 &&& Int64.toUInt64 63)).toInt64 &&& (6148914691236517205 : Int64))).toUInt64 >>> ((2 : Int32).toInt64.toUInt64 &&& Int64.toUInt64 63)).toInt64 &&& (3689348814741910323 : Int64))).toUInt64 >>> ((4 : Int32).toInt64.toUInt64 &&& Int64.toUInt64 63)).toInt64) &&& (1085102592571150095 : Int64)).toUInt64 >>> ((8 : Int32).toInt64.toUInt64 &&& Int64.toUInt64 63)).toInt64).toUInt64 >>> ((16 : Int32).toInt64.toUInt64 &&& Int64.toUInt64 63)).toInt64))]) hx hb dJ13_bitCount_95d88_47 rfl hl (by decide) rfl (fun ls hl => ?_)
  refine lv_lload_n hx hb dJ13_bitCount_95d88_48 rfl (lv_at hl 0 rfl) ?_
  refine lv_lload_n hx hb dJ13_bitCount_95d88_49 rfl (lv_at hl 0 rfl) ?_
  refine lv_bipush (v := 32) hx hb dJ13_bitCount_95d88_50 (by decide) ?_
  refine lv_lushr hx hb dJ13_bitCount_95d88_52 rfl ?_
  refine lv_ladd hx hb dJ13_bitCount_95d88_53 ?_
  refine lv_lstore_n (lv' := [(0, .long ((((((((x0 - ((x0.toUInt64 >>> ((1 : Int32).toInt64.toUInt64 &&& Int64.toUInt64 63)).toInt64 &&& (6148914691236517205 : Int64))) &&& (3689348814741910323 : Int64)) + (((x0 - ((x0.toUInt64 >>> ((1 : Int32).toInt64.toUInt64 &&& Int64.toUInt64 63)).toInt64 &&& (6148914691236517205 : Int64))).toUInt64 >>> ((2 : Int32).toInt64.toUInt64 &&& Int64.toUInt64 63)).toInt64 &&& (3689348814741910323 : Int64))) + ((((x0 - ((x0.toUInt64 >>> ((1 : Int32).toInt64.toUInt64 &&& Int64.toUInt64 63)).toInt64 &&& (6148914691236517205 : Int64))) &&& (3689348814741910323 : Int64)) + (((x0 - ((x0.toUInt64 >>> ((1 : Int32).toInt64.toUInt64 &&& Int64.toUInt64 63)).toInt64 &&& (6148914691236517205 : Int64))).toUInt64 >>> ((2 : Int32).toInt64.toUInt64 &&& Int64.toUInt64 63)).toInt64 &&& (3689348814741910323 : Int64))).toUInt64 >>> ((4 : Int32).toInt64.toUInt64 &&& Int64.toUInt64 63)).toInt64) &&& (1085102592571150095 : Int64)) + ((((((x0 - ((x0.toUInt64 >>> ((1 : Int32).toInt64.toUInt64 &&& Int64.toUInt64 63)).toInt64 &&& (6148914691236517205 : Int64))) &&& (3689348814741910323 : Int64)) + (((x0 - ((x0.toUInt64 >>> ((1 : Int32).toInt64.toUInt64 &&& Int64.toUInt64 63)).toInt64 &&& (6148914691236517205 : Int64))).toUInt64 >>> ((2 : Int32).toInt64.toUInt64 &&& Int64.toUInt64 63)).toInt64 &&& (3689348814741910323 : Int64))) + ((((x0 - ((x0.toUInt64 >>> ((1 : Int32).toInt64.toUInt64 &&& Int64.toUInt64 63)).toInt64 &&& (6148914691236517205 : Int64))) &&& (3689348814741910323 : Int64)) + (((x0 - ((x0.toUInt64 >>> ((1 : Int32).toInt64.toUInt64 &&& Int64.toUInt64 63)).toInt64 &&& (6148914691236517205 : Int64))).toUInt64 >>> ((2 : Int32).toInt64.toUInt64 &&& Int64.toUInt64 63)).toInt64 &&& (3689348814741910323 : Int64))).toUInt64 >>> ((4 : Int32).toInt64.toUInt64 &&& Int64.toUInt64 63)).toInt64) &&& (1085102592571150095 : Int64)).toUInt64 >>> ((8 : Int32).toInt64.toUInt64 &&& Int64.toUInt64 63)).toInt64) + (((((((x0 - ((x0.toUInt64 >>> ((1 : Int32).toInt64.toUInt64 &&& Int64.toUInt64 63)).toInt64 &&& (6148914691236517205 : Int64))) &&& (3689348814741910323 : Int64)) + (((x0 - ((x0.toUInt64 >>> ((1 : Int32).toInt64.toUInt64 &&& Int64.toUInt64 63)).toInt64 &&& (6148914691236517205 : Int64))).toUInt64 >>> ((2 : Int32).toInt64.toUInt64 &&& Int64.toUInt64 63)).toInt64 &&& (3689348814741910323 : Int64))) + ((((x0 - ((x0.toUInt64 >>> ((1 : Int32).toInt64.toUInt64 &&& Int64.toUInt64 63)).toInt64 &&& (6148914691236517205 : Int64))) &&& (3689348814741910323 : Int64)) + (((x0 - ((x0.toUInt64 >>> ((1 : Int32).toInt64.toUInt64 &&& Int64.toUInt64 63)).toInt64 &&& (6148914691236517205 : Int64))).toUInt64 >>> ((2 : Int32).toInt64.toUInt64 &&& Int64.toUInt64 63)).toInt64 &&& (3689348814741910323 : Int64))).toUInt64 >>> ((4 : Int32).toInt64.toUInt64 &&& Int64.toUInt64 63)).toInt64) &&& (1085102592571150095 : Int64)) + ((((((x0 - ((x0.toUInt64 >>> ((1 : Int32).toInt64.toUInt64 &&& Int64.toUInt64 63)).toInt64 &&& (6148914691236517205 : Int64))) &&& (3689348814741910323 : Int64)) + (((x0 - ((x0.toUInt64 >>> ((1 : Int32).toInt64.toUInt64 &&& Int64.toUInt64 63)).toInt64 &&& (6148914691236517205 : Int64))).toUInt64 >>> ((2 : Int32).toInt64.toUInt64 &&& Int64.toUInt64 63)).toInt64 &&& (3689348814741910323 : Int64))) + ((((x0 - ((x0.toUInt64 >>> ((1 : Int32).toInt64.toUInt64 &&& Int64.toUInt64 63)).toInt64 &&& (6148914691236517205 : Int64))) &&& (3689348814741910323 : Int64)) + (((x0 - ((x0.toUInt64 >>> ((1 : Int32).toInt64.toUInt64 &&& Int64.toUInt64 63)).toInt64 &&& (6148914691236517205 : Int64))).toUInt64 >>> ((2 : Int32).toInt64.toUInt64 &&& Int64.toUInt64 63)).toInt64 &&& (3689348814741910323 : Int64))).toUInt64 >>> ((4 : Int32).toInt64.toUInt64 &&& Int64.toUInt64 63)).toInt64) &&& (1085102592571150095 : Int64)).toUInt64 >>> ((8 : Int32).toInt64.toUInt64 &&& Int64.toUInt64 63)).toInt64).toUInt64 >>> ((16 : Int32).toInt64.toUInt64 &&& Int64.toUInt64 63)).toInt64) + ((((((((x0 - ((x0.toUInt64 >>> ((1 : Int32).toInt64.toUInt64 &&& Int64.toUInt64 63)).toInt64 &&& (6148914691236517205 : Int64))) &&& (3689348814741910323 : Int64)) + (((x0 - ((x0.toUInt64 >>> ((1 : Int32).toInt64.toUInt64 &&& Int64.toUInt64 63)).toInt64 &&& (6148914691236517205 : Int64))).toUInt64 >>> ((2 : Int32).toInt64.toUInt64 &&& Int64.toUInt64 63)).toInt64 &&& (3689348814741910323 : Int64))) + ((((x0 - ((x0.toUInt64 >>> ((1 : Int32).toInt64.toUInt64 &&& Int64.toUInt64 63)).toInt64 &&& (6148914691236517205 : Int64))) &&& (3689348814741910323 : Int64)) + (((x0 - ((x0.toUInt64 >>> ((1 : Int32).toInt64.toUInt64 &&& Int64.toUInt64 63)).toInt64 &&& (6148914691236517205 : Int64))).toUInt64 >>> ((2 : Int32).toInt64.toUInt64 &&& Int64.toUInt64 63)).toInt64 &&& (3689348814741910323 : Int64))).toUInt64 >>> ((4 : Int32).toInt64.toUInt64 &&& Int64.toUInt64 63)).toInt64) &&& (1085102592571150095 : Int64)) + ((((((x0 - ((x0.toUInt64 >>> ((1 : Int32).toInt64.toUInt64 &&& Int64.toUInt64 63)).toInt64 &&& (6148914691236517205 : Int64))) &&& (3689348814741910323 : Int64)) + (((x0 - ((x0.toUInt64 >>> ((1 : Int32).toInt64.toUInt64 &&& Int64.toUInt64 63)).toInt64 &&& (6148914691236517205 : Int64))).toUInt64 >>> ((2 : Int32).toInt64.toUInt64 &&& Int64.toUInt64 63)).toInt64 &&& (3689348814741910323 : Int64))) + ((((x0 - ((x0.toUInt64 >>> ((1 : Int32).toInt64.toUInt64 &&& Int64.toUInt64 63)).toInt64 &&& (6148914691236517205 : Int64))) &&& (3689348814741910323 : Int64)) + (((x0 - ((x0.toUInt64 >>> ((1 : Int32).toInt64.toUInt64 &&& Int64.toUInt64 63)).toInt64 &&& (6148914691236517205 : Int64))).toUInt64 >>> ((2 : Int32).toInt64.toUInt64 &&& Int64.toUInt64 63)).toInt64 &&& (3689348814741910323 : Int64))).toUInt64 >>> ((4 : Int32).toInt64.toUInt64 &&& Int64.toUInt64 63)).toInt64) &&& (1085102592571150095 : Int64)).toUInt64 >>> ((8 : Int32).toInt64.toUInt64 &&& Int64.toUInt64 63)).toInt64) + (((((((x0 - ((x0.toUInt64 >>> ((1 : Int32).toInt64.toUInt64 &&& Int64.toUInt64 63)).toInt64 &&& (6148914691236517205 : Int64))) &&& (3689348814741910323 : Int64)) + (((x0 - ((x0.toUInt64 >>> ((1 : Int32).toInt64.toUInt64 &&& Int64.toUInt64 63)).toInt64 &&& (6148914691236517205 : Int64))).toUInt64 >>> ((2 : Int32).toInt64.toUInt64 &&& Int64.toUInt64 63)).toInt64 &&& (3689348814741910323 : Int64))) + ((((x0 - ((x0.toUInt64 >>> ((1 : Int32).toInt64.toUInt64 &&& Int64.toUInt64 63)).toInt64 &&& (6148914691236517205 : Int64))) &&& (3689348814741910323 : Int64)) + (((x0 - ((x0.toUInt64 >>> ((1 : Int32).toInt64.toUInt64 &&& Int64.toUInt64 63)).toInt64 &&& (6148914691236517205 : Int64))).toUInt64 >>> ((2 : Int32).toInt64.toUInt64 &&& Int64.toUInt64 63)).toInt64 &&& (3689348814741910323 : Int64))).toUInt64 >>> ((4 : Int32).toInt64.toUInt64 &&& Int64.toUInt64 63)).toInt64) &&& (1085102592571150095 : Int64)) + ((((((x0 - ((x0.toUInt64 >>> ((1 : Int32).toInt64.toUInt64 &&& Int64.toUInt64 63)).toInt64 &&& (6148914691236517205 : Int64))) &&& (3689348814741910323 : Int64)) + (((x0 - ((x0.toUInt64 >>> ((1 : Int32).toInt64.toUInt64 &&& Int64.toUInt64 63)).toInt64 &&& (6148914691236517205 : Int64))).toUInt64 >>> ((2 : Int32).toInt64.toUInt64 &&& Int64.toUInt64 63)).toInt64 &&& (3689348814741910323 : Int64))) + ((((x0 - ((x0.toUInt64 >>> ((1 : Int32).toInt64.toUInt64 &&& Int64.toUInt64 63)).toInt64 &&& (6148914691236517205 : Int64))) &&& (3689348814741910323 : Int64)) + (((x0 - ((x0.toUInt64 >>> ((1 : Int32).toInt64.toUInt64 &&& Int64.toUInt64 63)).toInt64 &&& (6148914691236517205 : Int64))).toUInt64 >>> ((2 : Int32).toInt64.toUInt64 &&& Int64.toUInt64 63)).toInt64 &&& (3689348814741910323 : Int64))).toUInt64 >>> ((4 : Int32).toInt64.toUInt64 &&& Int64.toUInt64 63)).toInt64) &&& (1085102592571150095 : Int64)).toUInt64 >>> ((8 : Int32).toInt64.toUInt64 &&& Int64.toUInt64 63)).toInt64).toUInt64 >>> ((16 : Int32).toInt64.toUInt64 &&& Int64.toUInt64 63)).toInt64).toUInt64 >>> ((32 : Int32).toInt64.toUInt64 &&& Int64.toUInt64 63)).toInt64))]) hx hb dJ13_bitCount_95d88_54 rfl hl (by decide) rfl (fun ls hl => ?_)
  refine lv_lload_n hx hb dJ13_bitCount_95d88_55 rfl (lv_at hl 0 rfl) ?_
  refine lv_l2i hx hb dJ13_bitCount_95d88_56 rfl ?_
  refine lv_bipush (v := 127) hx hb dJ13_bitCount_95d88_57 (by decide) ?_
  refine lv_iand hx hb dJ13_bitCount_95d88_59 ?_
  have hf := Option.some.inj hf
  subst hf
  exact ret_i F hr hk Z dJ13_bitCount_95d88_60
def f_X11_about_29 (n : Nat) (st : StT) (x1 : Int32) (x2 : Int32) (x3 : Int32) : Option (Int32 × StT) := if x2 = 0 then ((f_X9_parentOf n st x1).bind fun q61 => (some (q61.1, q61.2))) else (if x2 = 1 then ((f_X9_forces n st x1 x3).bind fun q71 => (if q71.1 = 0 then (some ((0 : Int32), q71.2)) else (some ((1 : Int32), q71.2)))) else (if x2 = 2 then ((f_X9_above n st x1).bind fun q88 => ((f_J13_bitCount_95d88 n q88.2 q88.1).bind fun q91 => (some (q91.1, q91.2)))) else (some ((-2 : Int32), st))))
def f_X11_about (n : Nat) (st : StT) (x1 : Int32) (x2 : Int32) (x3 : Int32) : Option (Int32 × StT) := (f_X9_has n st x1).bind fun q5 => (if q5.1 = 0 then (some ((-1 : Int32), q5.2)) else (if x2 = (1 : Int32) then ((f_X1_hasVariable_F0 n q5.2 x3).bind fun q21 => (if q21.1 = 0 then (some ((-1 : Int32), q21.2)) else (f_X11_about_29 n q21.2 x1 x2 x3))) else (f_X11_about_29 n q5.2 x1 x2 x3)))
theorem wd888 : Cond.methodLink RX11 192 yX9_parentOf ∈ Gw := gT6 (List.mem_of_getElem? (i := 18) rfl) rfl
theorem wd889 : Cond.code yX9_parentOf prog_11_method_5_code 2 (some .int) ∈ Gw := gT6 (List.mem_of_getElem? (i := 21) rfl) rfl
theorem wd890 : Cond.instanceMethod yX9_parentOf ∈ Gw := gT6 (List.mem_of_getElem? (i := 19) rfl) rfl
theorem wd891 : Cond.selects RX9 yX9_parentOf yX9_parentOf ∈ Gw := gT6 (List.mem_of_getElem? (i := 20) rfl) rfl
theorem wd892 : Cond.methodLink RX11 195 yX9_forces ∈ Gw := gT6 (List.mem_of_getElem? (i := 22) rfl) rfl
theorem wd893 : Cond.methodLink RX11 203 yJ13_bitCount_95d88 ∈ Gw := gT6 (List.mem_of_getElem? (i := 24) rfl) rfl
theorem wd894 : Cond.code yJ13_bitCount_95d88 prog_17_method_50_code 2 (some .int) ∈ Gw := gT6 (List.mem_of_getElem? (i := 26) rfl) rfl
theorem wd895 : Cond.static yJ13_bitCount_95d88 ∈ Gw := gT6 (List.mem_of_getElem? (i := 25) rfl) rfl
theorem wd896 : Cond.initialized RJ13 ∈ Gw := gT1 (List.mem_of_getElem? (i := 21) rfl) rfl
theorem wd897 : Cond.methodLink RX11 199 yX9_above ∈ Gw := gT6 (List.mem_of_getElem? (i := 23) rfl) rfl
section
variable {p : Program} {l : Launch} {e : Env} {R : Room} {s : State} {m : MethodId} {args : Array Value} {below : List Frame} {meth : Method} {c : Code} {H : Heap} {locs : List Loc} {Q : State → Prop}
variable {cc : ByteArray} {nL pc : Nat} {ls : Array Slot} {rest : List Value} {D : va_G} {A : Nat → Prop} {cw : Cond} {ad : Nat → Nat} {cy : Nat → ClassId} {ee : EE} {st : StT} {own : String}
theorem krX11_192_X9_parentOf {n : Nat} {a0 : Int32} {q : (Int32 × StT)} (F : CallFix p m c cc nL s args (cw :: Gw) RX11) (K : va_K D vwCl (tyL cy) s) (E : EV ee A s s.heap) (hA : ∀ q, s.heap.size ≤ q → A q) (Z : ZG D (wC ad cy st) A s H locs) (hf : f_X9_parentOf n st a0 = some q) (hR : 2 ≤ R.frames ∧ 42 ≤ R.locals) (hl : ls.size = nL) (hst : (rest.map fun v => v.category).sum ≤ 8) (hd : decode cc pc = .ok (.invokevirtual 192, 3)) (kk : ∀ (H1 : Heap) (locs1 : List Loc), ZG D (wC ad cy q.2) A s H1 locs1 → W p l e R s m args below meth c H1 locs1 0 0 Q (F0 m (pc + 3) ls (.int q.1 :: rest))) : W p l e R s m args below meth c H locs 0 0 Q (F0 m pc ls (.int a0 :: .ref (ad 58) :: rest)) :=
  call_V (q := (RX9, TX9, 6)) (n := 1) (As := [.int a0]) (rv := some (.int q.1)) 58 9 F K E hA Z (c_X9_parentOf (l := l) (D := D) (ad := ad) (cy := cy) (ee := ee) hf) ⟨wd889, wd888, wd890, wd891, wd319⟩ (by decide +kernel) rfl rfl hR rfl hl hst hd kk
theorem krX11_195_X9_forces {n : Nat} {a0 : Int32} {a1 : Int32} {q : (Int32 × StT)} (F : CallFix p m c cc nL s args (cw :: Gw) RX11) (K : va_K D vwCl (tyL cy) s) (E : EV ee A s s.heap) (hA : ∀ q, s.heap.size ≤ q → A q) (Z : ZG D (wC ad cy st) A s H locs) (hf : f_X9_forces n st a0 a1 = some q) (hR : 2 ≤ R.frames ∧ 43 ≤ R.locals) (hl : ls.size = nL) (hst : (rest.map fun v => v.category).sum ≤ 8) (hd : decode cc pc = .ok (.invokevirtual 195, 3)) (kk : ∀ (H1 : Heap) (locs1 : List Loc), ZG D (wC ad cy q.2) A s H1 locs1 → W p l e R s m args below meth c H1 locs1 0 0 Q (F0 m (pc + 3) ls (.int q.1 :: rest))) : W p l e R s m args below meth c H locs 0 0 Q (F0 m pc ls (.int a1 :: .int a0 :: .ref (ad 58) :: rest)) :=
  call_V (q := (RX9, TX9, 6)) (n := 2) (As := [.int a0, .int a1]) (rv := some (.int q.1)) 58 9 F K E hA Z (c_X9_forces (l := l) (D := D) (ad := ad) (cy := cy) (ee := ee) hf) ⟨wd327, wd892, wd328, wd329, wd319⟩ (by decide +kernel) rfl rfl hR rfl hl hst hd kk
theorem krX11_203_J13_bitCount_95d88 {n : Nat} {a0 : Int64} {q : (Int32 × StT)} (F : CallFix p m c cc nL s args (cw :: Gw) RX11) (K : va_K D vwCl (tyL cy) s) (E : EV ee A s s.heap) (hA : ∀ q, s.heap.size ≤ q → A q) (Z : ZG D (wC ad cy st) A s H locs) (hf : f_J13_bitCount_95d88 n st a0 = some q) (hR : 1 ≤ R.frames ∧ 21 ≤ R.locals) (hl : ls.size = nL) (hst : (rest.map fun v => v.category).sum ≤ 8) (hd : decode cc pc = .ok (.invokestatic 203, 3)) (kk : ∀ (H1 : Heap) (locs1 : List Loc), ZG D (wC ad cy q.2) A s H1 locs1 → W p l e R s m args below meth c H1 locs1 0 0 Q (F0 m (pc + 3) ls (.int q.1 :: rest))) : W p l e R s m args below meth c H locs 0 0 Q (F0 m pc ls (.long a0 :: rest)) :=
  call_S (n := 1) (As := [.long a0]) (rv := some (.int q.1)) F K E hA Z (c_J13_bitCount_95d88 (l := l) (D := D) (ad := ad) (cy := cy) (ee := ee) hf) ⟨wd894, wd893, wd895, wd896⟩ (by decide +kernel) hR rfl hl hst hd kk
theorem krX11_199_X9_above {n : Nat} {a0 : Int32} {q : (Int64 × StT)} (F : CallFix p m c cc nL s args (cw :: Gw) RX11) (K : va_K D vwCl (tyL cy) s) (E : EV ee A s s.heap) (hA : ∀ q, s.heap.size ≤ q → A q) (Z : ZG D (wC ad cy st) A s H locs) (hf : f_X9_above n st a0 = some q) (hR : 2 ≤ R.frames ∧ 45 ≤ R.locals) (hl : ls.size = nL) (hst : (rest.map fun v => v.category).sum ≤ 8) (hd : decode cc pc = .ok (.invokevirtual 199, 3)) (kk : ∀ (H1 : Heap) (locs1 : List Loc), ZG D (wC ad cy q.2) A s H1 locs1 → W p l e R s m args below meth c H1 locs1 0 0 Q (F0 m (pc + 3) ls (.long q.1 :: rest))) : W p l e R s m args below meth c H locs 0 0 Q (F0 m pc ls (.int a0 :: .ref (ad 58) :: rest)) :=
  call_V (q := (RX9, TX9, 6)) (n := 1) (As := [.int a0]) (rv := some (.long q.1)) 58 9 F K E hA Z (c_X9_above (l := l) (D := D) (ad := ad) (cy := cy) (ee := ee) hf) ⟨wd333, wd897, wd334, wd335, wd319⟩ (by decide +kernel) rfl rfl hR rfl hl hst hd kk
end
set_option maxRecDepth 100000 in
set_option maxHeartbeats 4000000 in
theorem b_X11_about_29 {p : Program} {l : Launch} {e : Env} {s : State} {m : MethodId} {args : Array Value} {below : List Frame} {meth : Method} {c : Code} {D : va_G} {A : Nat → Prop} {ad : Nat → Nat} {cy : Nat → ClassId} {ee : EE} {n : Nat} {res : (Int32 × StT)} (F : CallFix p m c cX11_about 4 s args (Cond.code yX11_about cX11_about 4 (some .int) :: Gw) yX11_about.cls) (hr : meth.sig.returnType = (some .int)) (hk : meth.locks = false) (K : va_K D vwCl (tyL cy) s) (E : EV ee A s s.heap) (hA : ∀ q, s.heap.size ≤ q → A q) : ∀ (st : StT) (x1 : Int32) (x2 : Int32) (x3 : Int32), f_X11_about_29 n st x1 x2 x3 = some res → ∀ (H : Heap) (locs : List Loc) (ls : Array Slot), ZG D (wC ad cy st) A s H locs → lv_has ls 4 [(0, .ref (ad 0)), (1, .int x1), (2, .int x2), (3, .int x3)] → W p l e { frames := 2, cells := 0, slots := 0, locals := 45 } s m args below meth c H locs 0 0 (MQ below (QC D (some (.int res.1)) (wC ad cy res.2) A) args s 0 0 A) (F0 m 29 ls []) := by
  have hx := F.1
  have hb := F.2.1
  intro st x1 x2 x3 hf H locs ls Z hl
  unfold f_X11_about_29 at hf
  refine lv_iload_n hx hb dX11_about_29 rfl (lv_at hl 2 rfl) ?_
  by_cases c30_0 : x2 = 0
  · have hf := if_t c30_0 hf
    refine lv_tableIn (tgt := 56) hx hb dX11_about_30 (by rw [c30_0] <;> decide) (by rw [c30_0] <;> decide) (by rw [c30_0] <;> rfl) (by decide) ?_
    refine lv_aload_n hx hb dX11_about_56 rfl (lv_at hl 0 rfl) ?_
    refine grX11_77_0 F K Z dX11_about_57 ?_
    refine lv_iload_n hx hb dX11_about_60 rfl (lv_at hl 1 rfl) ?_
    obtain ⟨q61, h61, hf⟩ := bind_some hf
    refine krX11_192_X9_parentOf F K E hA Z h61 ⟨Nat.le_of_ble_eq_true rfl, Nat.le_of_ble_eq_true rfl⟩ hl.1 (Nat.le_of_ble_eq_true rfl) dX11_about_61 (fun H locs Z => ?_)
    have hf := Option.some.inj hf
    subst hf
    exact ret_i F hr hk Z dX11_about_64
  have hf := if_f c30_0 hf
  by_cases c30_1 : x2 = 1
  · have hf := if_t c30_1 hf
    refine lv_tableIn (tgt := 65) hx hb dX11_about_30 (by rw [c30_1] <;> decide) (by rw [c30_1] <;> decide) (by rw [c30_1] <;> rfl) (by decide) ?_
    refine lv_aload_n hx hb dX11_about_65 rfl (lv_at hl 0 rfl) ?_
    refine grX11_77_0 F K Z dX11_about_66 ?_
    refine lv_iload_n hx hb dX11_about_69 rfl (lv_at hl 1 rfl) ?_
    refine lv_iload_n hx hb dX11_about_70 rfl (lv_at hl 3 rfl) ?_
    obtain ⟨q71, h71, hf⟩ := bind_some hf
    refine krX11_195_X9_forces F K E hA Z h71 ⟨Nat.le_of_ble_eq_true rfl, Nat.le_of_ble_eq_true rfl⟩ hl.1 (Nat.le_of_ble_eq_true rfl) dX11_about_71 (fun H locs Z => ?_)
    refine lv_if_eq (tgt := 81) hx hb dX11_about_74 (by decide) (fun c74 => ?_) (fun c74 => ?_)
    · have hf := if_t c74 hf
      refine lv_iconst (v := 0) hx hb dX11_about_81 (by decide) ?_
      have hf := Option.some.inj hf
      subst hf
      exact ret_i F hr hk Z dX11_about_82
    have hf := if_f c74 hf
    refine lv_iconst (v := 1) hx hb dX11_about_77 (by decide) ?_
    refine lv_goto (tgt := 82) hx hb dX11_about_78 (by decide) ?_
    have hf := Option.some.inj hf
    subst hf
    exact ret_i F hr hk Z dX11_about_82
  have hf := if_f c30_1 hf
  by_cases c30_2 : x2 = 2
  · have hf := if_t c30_2 hf
    refine lv_tableIn (tgt := 83) hx hb dX11_about_30 (by rw [c30_2] <;> decide) (by rw [c30_2] <;> decide) (by rw [c30_2] <;> rfl) (by decide) ?_
    refine lv_aload_n hx hb dX11_about_83 rfl (lv_at hl 0 rfl) ?_
    refine grX11_77_0 F K Z dX11_about_84 ?_
    refine lv_iload_n hx hb dX11_about_87 rfl (lv_at hl 1 rfl) ?_
    obtain ⟨q88, h88, hf⟩ := bind_some hf
    refine krX11_199_X9_above F K E hA Z h88 ⟨Nat.le_of_ble_eq_true rfl, Nat.le_of_ble_eq_true rfl⟩ hl.1 (Nat.le_of_ble_eq_true rfl) dX11_about_88 (fun H locs Z => ?_)
    obtain ⟨q91, h91, hf⟩ := bind_some hf
    refine krX11_203_J13_bitCount_95d88 F K E hA Z h91 ⟨Nat.le_of_ble_eq_true rfl, Nat.le_of_ble_eq_true rfl⟩ hl.1 (Nat.le_of_ble_eq_true rfl) dX11_about_91 (fun H locs Z => ?_)
    have hf := Option.some.inj hf
    subst hf
    exact ret_i F hr hk Z dX11_about_94
  have hf := if_f c30_2 hf
  refine sw_tab (tgt := 95) hx hb dX11_about_30 (sw_any (fun j h1 h2 hj => ?_)) (by decide) ?_
  · rcases (show j = 0 ∨ j = 1 ∨ j = 2 by omega) with rfl | rfl | rfl
    · exact absurd hj (lv_neT c30_0 (by decide))
    · exact absurd hj (lv_neT c30_1 (by decide))
    · exact absurd hj (lv_neT c30_2 (by decide))
  refine lv_bipush (v := -2) hx hb dX11_about_95 (by decide) ?_
  have hf := Option.some.inj hf
  subst hf
  exact ret_i F hr hk Z dX11_about_97
set_option maxRecDepth 100000 in
set_option maxHeartbeats 4000000 in
theorem c_X11_about {l : Launch} {D : va_G} {ad : Nat → Nat} {cy : Nat → ClassId} {ee : EE} {n : Nat} {st : StT} {x1 : Int32} {x2 : Int32} {x3 : Int32} {res : (Int32 × StT)} (hf : f_X11_about n st x1 x2 x3 = some res) : CT l yX11_about cX11_about 4 (some .int) 2 45 D cy ee (wC ad cy st) (wC ad cy res.2) [.ref (ad 0), .int x1, .int x2, .int x3] (some (.int res.1)) := by
  refine CT.of (by decide +kernel) (Nat.le_of_ble_eq_true rfl) ?_
  intro p e s m args below meth c A F hr hk K E hA Z ls hl
  have hl : lv_has ls 4 [(0, .ref (ad 0)), (1, .int x1), (2, .int x2), (3, .int x3)] := hl
  have hx := F.1
  have hb := F.2.1
  unfold f_X11_about at hf
  refine lv_aload_n hx hb dX11_about_0 rfl (lv_at hl 0 rfl) ?_
  refine grX11_77_0 F K Z dX11_about_1 ?_
  refine lv_iload_n hx hb dX11_about_4 rfl (lv_at hl 1 rfl) ?_
  obtain ⟨q5, h5, hf⟩ := bind_some hf
  refine krX11_181_X9_has F K E hA Z h5 ⟨Nat.le_of_ble_eq_true rfl, Nat.le_of_ble_eq_true rfl⟩ hl.1 (Nat.le_of_ble_eq_true rfl) dX11_about_5 (fun H locs Z => ?_)
  refine lv_if_eq (tgt := 27) hx hb dX11_about_8 (by decide) (fun c8 => ?_) (fun c8 => ?_)
  · have hf := if_t c8 hf
    refine lv_iconst (v := -1) hx hb dX11_about_27 (by decide) ?_
    have hf := Option.some.inj hf
    subst hf
    exact ret_i F hr hk Z dX11_about_28
  have hf := if_f c8 hf
  refine lv_iload_n hx hb dX11_about_11 rfl (lv_at hl 2 rfl) ?_
  refine lv_iconst (v := 1) hx hb dX11_about_12 (by decide) ?_
  refine lv_icmp_ne (tgt := 29) hx hb dX11_about_13 (by decide) (fun c13 => ?_) (fun c13 => ?_)
  · have hf := if_f c13 hf
    exact b_X11_about_29 F hr hk K E hA _ _ _ _ hf _ _ _ Z hl
  have hf := if_t c13 hf
  refine lv_aload_n hx hb dX11_about_16 rfl (lv_at hl 0 rfl) ?_
  refine grX11_25_0 F K Z dX11_about_17 ?_
  refine lv_iload_n hx hb dX11_about_20 rfl (lv_at hl 3 rfl) ?_
  obtain ⟨q21, h21, hf⟩ := bind_some hf
  refine krX11_185_X1_hasVariable_F0 F K E hA Z h21 ⟨Nat.le_of_ble_eq_true rfl, Nat.le_of_ble_eq_true rfl⟩ hl.1 (Nat.le_of_ble_eq_true rfl) dX11_about_21 (fun H locs Z => ?_)
  refine lv_if_ne (tgt := 29) hx hb dX11_about_24 (by decide) (fun c24 => ?_) (fun c24 => ?_)
  · have hf := if_f c24 hf
    exact b_X11_about_29 F hr hk K E hA _ _ _ _ hf _ _ _ Z hl
  have hf := if_t c24 hf
  refine lv_iconst (v := -1) hx hb dX11_about_27 (by decide) ?_
  have hf := Option.some.inj hf
  subst hf
  exact ret_i F hr hk Z dX11_about_28
def f_X11_holds (n : Nat) (st : StT) (x1 : Int32) (x2 : Int32) : Option (Int32 × StT) := (f_X9_has n st x1).bind fun q5 => (if q5.1 = 0 then (some ((-1 : Int32), q5.2)) else ((f_X1_has_F0 n q5.2 x2).bind fun q16 => (if q16.1 = 0 then (some ((-1 : Int32), q16.2)) else ((f_X2_inWorlds_58 n q16.2 x2).bind fun q33 => (if (lg_cmp ((q33.1.toUInt64 >>> (x1.toInt64.toUInt64 &&& Int64.toUInt64 63)).toInt64 &&& (1 : Int64)) (1 : Int64)) = 0 then (some ((1 : Int32), q33.2)) else (some ((0 : Int32), q33.2)))))))
theorem wd898 : Cond.methodLink RX11 209 yX2_inWorlds ∈ Gw := gT6 (List.mem_of_getElem? (i := 34) rfl) rfl
theorem wd899 : Cond.code yX2_inWorlds prog_4_method_9_code 4 (some .long) ∈ Gw := gT6 (List.mem_of_getElem? (i := 37) rfl) rfl
theorem wd900 : Cond.instanceMethod yX2_inWorlds ∈ Gw := gT6 (List.mem_of_getElem? (i := 35) rfl) rfl
theorem wd901 : Cond.selects RX2 yX2_inWorlds yX2_inWorlds ∈ Gw := gT6 (List.mem_of_getElem? (i := 36) rfl) rfl
section
variable {p : Program} {l : Launch} {e : Env} {R : Room} {s : State} {m : MethodId} {args : Array Value} {below : List Frame} {meth : Method} {c : Code} {H : Heap} {locs : List Loc} {Q : State → Prop}
variable {cc : ByteArray} {nL pc : Nat} {ls : Array Slot} {rest : List Value} {D : va_G} {A : Nat → Prop} {cw : Cond} {ad : Nat → Nat} {cy : Nat → ClassId} {ee : EE} {st : StT} {own : String}
theorem krX11_209_X2_inWorlds_58 {n : Nat} {a0 : Int32} {q : (Int64 × StT)} (F : CallFix p m c cc nL s args (cw :: Gw) RX11) (K : va_K D vwCl (tyL cy) s) (E : EV ee A s s.heap) (hA : ∀ q, s.heap.size ≤ q → A q) (Z : ZG D (wC ad cy st) A s H locs) (hf : f_X2_inWorlds_58 n st a0 = some q) (hR : 5 ≤ R.frames ∧ 112 ≤ R.locals) (hl : ls.size = nL) (hst : (rest.map fun v => v.category).sum ≤ 8) (hd : decode cc pc = .ok (.invokevirtual 209, 3)) (kk : ∀ (H1 : Heap) (locs1 : List Loc), ZG D (wC ad cy q.2) A s H1 locs1 → W p l e R s m args below meth c H1 locs1 0 0 Q (F0 m (pc + 3) ls (.long q.1 :: rest))) : W p l e R s m args below meth c H locs 0 0 Q (F0 m pc ls (.ref (ad 58) :: .int a0 :: .ref (ad 55) :: rest)) :=
  call_V (q := (RX2, TX2, 3)) (n := 2) (As := [.int a0, .ref (ad 58)]) (rv := some (.long q.1)) 55 2 F K E hA Z (c_X2_inWorlds_58 (l := l) (D := D) (ad := ad) (cy := cy) (ee := ee) hf) ⟨wd899, wd898, wd900, wd901, wd366⟩ (by decide +kernel) rfl rfl hR rfl hl hst hd kk
end
set_option maxRecDepth 100000 in
set_option maxHeartbeats 4000000 in
theorem c_X11_holds {l : Launch} {D : va_G} {ad : Nat → Nat} {cy : Nat → ClassId} {ee : EE} {n : Nat} {st : StT} {x1 : Int32} {x2 : Int32} {res : (Int32 × StT)} (hf : f_X11_holds n st x1 x2 = some res) : CT l yX11_holds cX11_holds 3 (some .int) 5 112 D cy ee (wC ad cy st) (wC ad cy res.2) [.ref (ad 0), .int x1, .int x2] (some (.int res.1)) := by
  refine CT.of (by decide +kernel) (Nat.le_of_ble_eq_true rfl) ?_
  intro p e s m args below meth c A F hr hk K E hA Z ls hl
  have hl : lv_has ls 3 [(0, .ref (ad 0)), (1, .int x1), (2, .int x2)] := hl
  have hx := F.1
  have hb := F.2.1
  unfold f_X11_holds at hf
  refine lv_aload_n hx hb dX11_holds_0 rfl (lv_at hl 0 rfl) ?_
  refine grX11_77_0 F K Z dX11_holds_1 ?_
  refine lv_iload_n hx hb dX11_holds_4 rfl (lv_at hl 1 rfl) ?_
  obtain ⟨q5, h5, hf⟩ := bind_some hf
  refine krX11_181_X9_has F K E hA Z h5 ⟨Nat.le_of_ble_eq_true rfl, Nat.le_of_ble_eq_true rfl⟩ hl.1 (Nat.le_of_ble_eq_true rfl) dX11_holds_5 (fun H locs Z => ?_)
  refine lv_if_eq (tgt := 22) hx hb dX11_holds_8 (by decide) (fun c8 => ?_) (fun c8 => ?_)
  · have hf := if_t c8 hf
    refine lv_iconst (v := -1) hx hb dX11_holds_22 (by decide) ?_
    have hf := Option.some.inj hf
    subst hf
    exact ret_i F hr hk Z dX11_holds_23
  have hf := if_f c8 hf
  refine lv_aload_n hx hb dX11_holds_11 rfl (lv_at hl 0 rfl) ?_
  refine grX11_25_0 F K Z dX11_holds_12 ?_
  refine lv_iload_n hx hb dX11_holds_15 rfl (lv_at hl 2 rfl) ?_
  obtain ⟨q16, h16, hf⟩ := bind_some hf
  refine krX11_109_X1_has_F0 F K E hA Z h16 ⟨Nat.le_of_ble_eq_true rfl, Nat.le_of_ble_eq_true rfl⟩ hl.1 (Nat.le_of_ble_eq_true rfl) dX11_holds_16 (fun H locs Z => ?_)
  refine lv_if_ne (tgt := 24) hx hb dX11_holds_19 (by decide) (fun c19 => ?_) (fun c19 => ?_)
  · have hf := if_f c19 hf
    refine lv_aload_n hx hb dX11_holds_24 rfl (lv_at hl 0 rfl) ?_
    refine grX11_70_0 F K Z dX11_holds_25 ?_
    refine lv_iload_n hx hb dX11_holds_28 rfl (lv_at hl 2 rfl) ?_
    refine lv_aload_n hx hb dX11_holds_29 rfl (lv_at hl 0 rfl) ?_
    refine grX11_77_0 F K Z dX11_holds_30 ?_
    obtain ⟨q33, h33, hf⟩ := bind_some hf
    refine krX11_209_X2_inWorlds_58 F K E hA Z h33 ⟨Nat.le_of_ble_eq_true rfl, Nat.le_of_ble_eq_true rfl⟩ hl.1 (Nat.le_of_ble_eq_true rfl) dX11_holds_33 (fun H locs Z => ?_)
    refine lv_iload_n hx hb dX11_holds_36 rfl (lv_at hl 1 rfl) ?_
    refine lv_lushr hx hb dX11_holds_37 rfl ?_
    refine lv_lconst (v := 1) hx hb dX11_holds_38 (by decide) ?_
    refine lv_land hx hb dX11_holds_39 ?_
    refine lv_lconst (v := 1) hx hb dX11_holds_40 (by decide) ?_
    refine W.lcmp hx hb dX11_holds_41 ?_
    refine lv_if_ne (tgt := 49) hx hb dX11_holds_42 (by decide) (fun c42 => ?_) (fun c42 => ?_)
    · have hf := if_f c42 hf
      refine lv_iconst (v := 0) hx hb dX11_holds_49 (by decide) ?_
      have hf := Option.some.inj hf
      subst hf
      exact ret_i F hr hk Z dX11_holds_50
    have hf := if_t c42 hf
    refine lv_iconst (v := 1) hx hb dX11_holds_45 (by decide) ?_
    refine lv_goto (tgt := 50) hx hb dX11_holds_46 (by decide) ?_
    have hf := Option.some.inj hf
    subst hf
    exact ret_i F hr hk Z dX11_holds_50
  have hf := if_t c19 hf
  refine lv_iconst (v := -1) hx hb dX11_holds_22 (by decide) ?_
  have hf := Option.some.inj hf
  subst hf
  exact ret_i F hr hk Z dX11_holds_23
