
section
variable {p : Program} {l : Launch} {e : Env} {R : Room} {s : State} {m : MethodId} {args : Array Value} {below : List Frame} {meth : Method} {c : Code} {H : Heap} {locs : List Loc} {Q : State → Prop}
variable {cc : ByteArray} {nL pc : Nat} {ls : Array Slot} {rest : List Value} {D : va_G} {A : Nat → Prop} {cw : Cond} {ad : Nat → Nat} {cy : Nat → ClassId} {ee : EE} {st : StT} {own : String}
theorem prX10_29_18 {v : Int32} (F : CallFix p m c cc nL s args (cw :: Gw) RX10) (K : va_K D vwCl (tyL cy) s) (Z : ZG D (wC ad cy st) A s H locs) (hd : decode cc pc = .ok (.putfield 29, 3)) (kk : ∀ (H1 : Heap) (locs1 : List Loc), ZG D (wC ad cy (uF st 13 v)) A s H1 locs1 → W p l e R s m args below meth c H1 locs1 0 0 Q (F0 m (pc + 3) ls rest)) : W p l e R s m args below meth c H locs 0 0 Q (F0 m pc ls (.int v :: .ref (ad 18) :: rest)) :=
  va_put (D := D) (ci := 10) (v := .int v) (ty := .int) (C := RX10) (T := TX10) (N := 8) F.1 F.2.1 F.2.2.2.2 (fun w h => List.mem_cons_of_mem _ (inG_X10 w h)) tyX10 tyX10_ok nmX10 F.2.2.2.1 K Z.1 Z.2.1 Z.2.2 18 rfl rfl 3 (by decide) (F.2.2.2.2 _ (List.mem_cons_of_mem _ wd509)) (fun _ h => h) rfl (by decide +kernel) rfl rfl (Nat.le_of_ble_eq_true rfl) hd (fun H1 locs1 hP hD hS => kk H1 locs1 ⟨hP, hD, hS⟩)
end
/-! Writer.finish: the two byte rows change places -/
def swS (st : StT) : StT := (fun j => if j = 12 then (if st.1 12 = 0 then 1 else 0) else st.1 j, (fun j => if j = 12 then st.2.1 13 else if j = 13 then st.2.1 12 else st.2.1 j), st.2.2)
theorem swS_L (ad : Nat → Nat) (st : StT) : swL ad (swS st) = swD ad st := by
  unfold swL swD swS
  by_cases h : st.1 12 = 0 <;> simp [h]
theorem swS_D (ad : Nat → Nat) (st : StT) : swD ad (swS st) = swL ad st := by
  unfold swL swD swS
  by_cases h : st.1 12 = 0 <;> simp [h]
set_option maxRecDepth 100000 in
theorem swS_w (ad : Nat → Nat) (cy : Nat → ClassId) (st : StT) : ([0, 1, 2, 3, 4, 5, 6, 7, 8, 9, 10, 11, 12, 13, 14, 15, 16, 17, 18, 20, 19, 21, 22, 23, 24, 25, 26, 27, 28, 29, 30, 31, 32, 33, 34, 35, 36, 37, 38, 39, 40, 41, 42, 43, 44, 45, 46, 47, 48, 49, 50, 51, 52, 53, 54, 55, 56, 57, 58, 59, 60, 61, 62] : List Nat).map (fun i => ((wC ad cy st).set 18 (ad 18, .inr (10, [.ref (ad 4), .ref (swD ad st), .ref (swL ad st), .int (st.1 13), .int (st.1 14), .ref (ad 21), .ref (ad 22), .int (st.1 15)])))[i]?) = (wC ad cy (swS st)).map some := by
  have h : wC ad cy (swS st) = ([0, 1, 2, 3, 4, 5, 6, 7, 8, 9, 10, 11, 12, 13, 14, 15, 16, 17, 18, 20, 19, 21, 22, 23, 24, 25, 26, 27, 28, 29, 30, 31, 32, 33, 34, 35, 36, 37, 38, 39, 40, 41, 42, 43, 44, 45, 46, 47, 48, 49, 50, 51, 52, 53, 54, 55, 56, 57, 58, 59, 60, 61, 62] : List Nat).filterMap (fun i => ((wC ad cy st).set 18 (ad 18, .inr (10, [.ref (ad 4), .ref (swD ad st), .ref (swL ad st), .int (st.1 13), .int (st.1 14), .ref (ad 21), .ref (ad 22), .int (st.1 15)])))[i]?) := by
    unfold wC
    rw [swS_L, swS_D]
    rfl
  rw [h]
  rfl
theorem swS_Z {D : va_G} {A : Nat → Prop} {s : State} {H : Heap} {locs : List Loc} {ad : Nat → Nat} {cy : Nat → ClassId} {st : StT} (Z : ZG D ((wC ad cy st).set 18 (ad 18, .inr (10, [.ref (ad 4), .ref (swD ad st), .ref (swL ad st), .int (st.1 13), .int (st.1 14), .ref (ad 21), .ref (ad 22), .int (st.1 15)]))) A s H locs) : ZG D (wC ad cy (swS st)) A s H locs := by
  refine ⟨fun k q hk => ?_, Z.2.1.sub [0, 1, 2, 3, 4, 5, 6, 7, 8, 9, 10, 11, 12, 13, 14, 15, 16, 17, 18, 20, 19, 21, 22, 23, 24, 25, 26, 27, 28, 29, 30, 31, 32, 33, 34, 35, 36, 37, 38, 39, 40, 41, 42, 43, 44, 45, 46, 47, 48, 49, 50, 51, 52, 53, 54, 55, 56, 57, 58, 59, 60, 61, 62] (by decide +kernel) (swS_w ad cy st), Z.2.2⟩
  have h1 : ([0, 1, 2, 3, 4, 5, 6, 7, 8, 9, 10, 11, 12, 13, 14, 15, 16, 17, 18, 20, 19, 21, 22, 23, 24, 25, 26, 27, 28, 29, 30, 31, 32, 33, 34, 35, 36, 37, 38, 39, 40, 41, 42, 43, 44, 45, 46, 47, 48, 49, 50, 51, 52, 53, 54, 55, 56, 57, 58, 59, 60, 61, 62].map (fun i => ((wC ad cy st).set 18 (ad 18, .inr (10, [.ref (ad 4), .ref (swD ad st), .ref (swL ad st), .int (st.1 13), .int (st.1 14), .ref (ad 21), .ref (ad 22), .int (st.1 15)])))[i]?))[k]? = some (some q) := by rw [swS_w ad cy st, List.getElem?_map, hk]; rfl
  rw [List.getElem?_map] at h1
  cases hi : ([0, 1, 2, 3, 4, 5, 6, 7, 8, 9, 10, 11, 12, 13, 14, 15, 16, 17, 18, 20, 19, 21, 22, 23, 24, 25, 26, 27, 28, 29, 30, 31, 32, 33, 34, 35, 36, 37, 38, 39, 40, 41, 42, 43, 44, 45, 46, 47, 48, 49, 50, 51, 52, 53, 54, 55, 56, 57, 58, 59, 60, 61, 62] : List Nat)[k]? with
  | none => rw [hi] at h1; cases h1
  | some i => rw [hi] at h1; exact Z.1 i q (Option.some.inj h1)
def f_X10_finish (n : Nat) (st : StT) : Option (Int32 × StT) := (f_X10_overflows n st).bind fun q1 => (if q1.1 = 0 then (some ((uF (swS q1.2) 13 ((swS q1.2).1 14)).1 14, uF (swS q1.2) 13 ((swS q1.2).1 14))) else (some ((-4 : Int32), q1.2)))
set_option maxRecDepth 100000 in
set_option maxHeartbeats 4000000 in
theorem c_X10_finish {l : Launch} {D : va_G} {ad : Nat → Nat} {cy : Nat → ClassId} {ee : EE} {n : Nat} {st : StT} {res : (Int32 × StT)} (hf : f_X10_finish n st = some res) : CT l yX10_finish cX10_finish 2 (some .int) 1 20 D cy ee (wC ad cy st) (wC ad cy res.2) [.ref (ad 18)] (some (.int res.1)) := by
  refine CT.of (by decide +kernel) (Nat.le_of_ble_eq_true rfl) ?_
  intro p e s m args below meth c A F hr hk K E hA Z ls hl
  have hl : lv_has ls 2 [(0, .ref (ad 18))] := hl
  have hx := F.1
  have hb := F.2.1
  unfold f_X10_finish at hf
  refine lv_aload_n hx hb dX10_finish_0 rfl (lv_at hl 0 rfl) ?_
  obtain ⟨q1, h1, hf⟩ := bind_some hf
  refine krX10_51_X10_overflows F K E hA Z h1 ⟨Nat.le_of_ble_eq_true rfl, Nat.le_of_ble_eq_true rfl⟩ hl.1 (Nat.le_of_ble_eq_true rfl) dX10_finish_1 (fun H locs Z => ?_)
  refine lv_if_eq (tgt := 10) hx hb dX10_finish_4 (by decide) (fun c4 => ?_) (fun c4 => ?_)
  · have hf := if_t c4 hf
    cases hf
    obtain ⟨r1, st⟩ := q1
    refine lv_aload_n hx hb dX10_finish_10 rfl (lv_at hl 0 rfl) ?_
    refine grX10_9_18 F K Z dX10_finish_11 ?_
    refine lv_astore_n (lv' := [(1, .ref (swL ad st)), (0, .ref (ad 18))]) hx hb dX10_finish_14 rfl hl (by decide) rfl (fun ls hl => ?_)
    refine lv_aload_n hx hb dX10_finish_15 rfl (lv_at hl 1 rfl) ?_
    refine lv_aload_n hx hb dX10_finish_16 rfl (lv_at hl 1 rfl) ?_
    refine grX10_15_18 F K Z dX10_finish_17 ?_
    refine va_put (D := D) (ci := 10) (v := .ref (swD ad st)) (ty := .array .byte) (C := RX10) (T := TX10) (N := 8) F.1 F.2.1 F.2.2.2.2 (fun w h => List.mem_cons_of_mem _ (inG_X10 w h)) tyX10 tyX10_ok nmX10 F.2.2.2.1 K Z.1 Z.2.1 Z.2.2 18 rfl rfl 1 (by decide) (F.2.2.2.2 _ (List.mem_cons_of_mem _ wd510)) (fun _ h => h) rfl (by decide +kernel) rfl rfl (Nat.le_of_ble_eq_true rfl) dX10_finish_20 (fun H locs hP hD hS => ?_)
    refine lv_aload_n hx hb dX10_finish_23 rfl (lv_at hl 1 rfl) ?_
    refine lv_aload_n hx hb dX10_finish_24 rfl (lv_at hl 0 rfl) ?_
    refine va_put (D := D) (ci := 10) (v := .ref (swL ad st)) (ty := .array .byte) (C := RX10) (T := TX10) (N := 8) F.1 F.2.1 F.2.2.2.2 (fun w h => List.mem_cons_of_mem _ (inG_X10 w h)) tyX10 tyX10_ok nmX10 F.2.2.2.1 K hP hD hS 18 rfl rfl 2 (by decide) (F.2.2.2.2 _ (List.mem_cons_of_mem _ wd512)) (fun _ h => h) rfl (by decide +kernel) rfl rfl (Nat.le_of_ble_eq_true rfl) dX10_finish_25 (fun H locs hP hD hS => ?_)
    have Z : ZG D (wC ad cy (swS st)) A s H locs := swS_Z (⟨hP, hD, hS⟩ : ZG D ((wC ad cy st).set 18 (ad 18, .inr (10, [.ref (ad 4), .ref (swD ad st), .ref (swL ad st), .int (st.1 13), .int (st.1 14), .ref (ad 21), .ref (ad 22), .int (st.1 15)]))) A s H locs)
    refine lv_aload_n hx hb dX10_finish_28 rfl (lv_at hl 1 rfl) ?_
    refine lv_aload_n hx hb dX10_finish_29 rfl (lv_at hl 1 rfl) ?_
    refine grX10_33_18 F K Z dX10_finish_30 ?_
    refine prX10_29_18 F K Z dX10_finish_33 (fun H locs Z => ?_)
    refine lv_aload_n hx hb dX10_finish_36 rfl (lv_at hl 1 rfl) ?_
    refine grX10_33_18 F K Z dX10_finish_37 ?_
    exact ret_i F hr hk Z dX10_finish_40
  have hf := if_f c4 hf
  cases hf
  refine lv_bipush (v := -4) hx hb dX10_finish_7 (by decide) ?_
  exact ret_i F hr hk Z dX10_finish_9
def f_X10_wholeFormula (n : Nat) (st : StT) (x1 : Int32) : Option (Int32 × StT) := (f_X10_putFormula n (uF st 14 (0 : Int32)) x1).bind fun q7 => ((f_X10_finish n q7).bind fun q11 => (some (q11.1, q11.2)))
theorem wd782 : Cond.methodLink RX10 40 yX10_finish ∈ Gw := gT4 (List.mem_of_getElem? (i := 30) rfl) rfl
theorem wd783 : Cond.code yX10_finish prog_12_method_5_code 2 (some .int) ∈ Gw := gT4 (List.mem_of_getElem? (i := 33) rfl) rfl
theorem wd784 : Cond.instanceMethod yX10_finish ∈ Gw := gT4 (List.mem_of_getElem? (i := 32) rfl) rfl
theorem wd785 : Cond.selects RX10 yX10_finish yX10_finish ∈ Gw := gP2 (q := (yX10_finish, 8)) (List.mem_of_getElem? (i := 9) rfl)
section
variable {p : Program} {l : Launch} {e : Env} {R : Room} {s : State} {m : MethodId} {args : Array Value} {below : List Frame} {meth : Method} {c : Code} {H : Heap} {locs : List Loc} {Q : State → Prop}
variable {cc : ByteArray} {nL pc : Nat} {ls : Array Slot} {rest : List Value} {D : va_G} {A : Nat → Prop} {cw : Cond} {ad : Nat → Nat} {cy : Nat → ClassId} {ee : EE} {st : StT} {own : String}
theorem krX10_40_X10_finish {n : Nat}  {q : (Int32 × StT)} (F : CallFix p m c cc nL s args (cw :: Gw) RX10) (K : va_K D vwCl (tyL cy) s) (E : EV ee A s s.heap) (hA : ∀ q, s.heap.size ≤ q → A q) (Z : ZG D (wC ad cy st) A s H locs) (hf : f_X10_finish n st = some q) (hR : 2 ≤ R.frames ∧ 41 ≤ R.locals) (hl : ls.size = nL) (hst : (rest.map fun v => v.category).sum ≤ 8) (hd : decode cc pc = .ok (.invokevirtual 40, 3)) (kk : ∀ (H1 : Heap) (locs1 : List Loc), ZG D (wC ad cy q.2) A s H1 locs1 → W p l e R s m args below meth c H1 locs1 0 0 Q (F0 m (pc + 3) ls (.int q.1 :: rest))) : W p l e R s m args below meth c H locs 0 0 Q (F0 m pc ls (.ref (ad 18) :: rest)) :=
  call_V (q := (RX10, TX10, 8)) (n := 0) (As := []) (rv := some (.int q.1)) 18 10 F K E hA Z (c_X10_finish (l := l) (D := D) (ad := ad) (cy := cy) (ee := ee) hf) ⟨wd783, wd782, wd784, wd785, wd519⟩ (by decide +kernel) rfl rfl hR rfl hl hst hd kk
end
set_option maxRecDepth 100000 in
set_option maxHeartbeats 4000000 in
theorem c_X10_wholeFormula {l : Launch} {D : va_G} {ad : Nat → Nat} {cy : Nat → ClassId} {ee : EE} {n : Nat} {st : StT} {x1 : Int32} {res : (Int32 × StT)} (hf : f_X10_wholeFormula n st x1 = some res) : CT l yX10_wholeFormula cX10_wholeFormula 2 (some .int) 7 155 D cy ee (wC ad cy st) (wC ad cy res.2) [.ref (ad 18), .int x1] (some (.int res.1)) := by
  refine CT.of (by decide +kernel) (Nat.le_of_ble_eq_true rfl) ?_
  intro p e s m args below meth c A F hr hk K E hA Z ls hl
  have hl : lv_has ls 2 [(0, .ref (ad 18)), (1, .int x1)] := hl
  have hx := F.1
  have hb := F.2.1
  unfold f_X10_wholeFormula at hf
  refine lv_aload_n hx hb dX10_wholeFormula_0 rfl (lv_at hl 0 rfl) ?_
  refine lv_iconst (v := 0) hx hb dX10_wholeFormula_1 (by decide) ?_
  refine prX10_33_18 F K Z dX10_wholeFormula_2 (fun H locs Z => ?_)
  refine lv_aload_n hx hb dX10_wholeFormula_5 rfl (lv_at hl 0 rfl) ?_
  refine lv_iload_n hx hb dX10_wholeFormula_6 rfl (lv_at hl 1 rfl) ?_
  obtain ⟨q7, h7, hf⟩ := bind_some hf
  refine krX10_36_X10_putFormula F K E hA Z h7 ⟨Nat.le_of_ble_eq_true rfl, Nat.le_of_ble_eq_true rfl⟩ hl.1 (Nat.le_of_ble_eq_true rfl) dX10_wholeFormula_7 (fun H locs Z => ?_)
  refine lv_aload_n hx hb dX10_wholeFormula_10 rfl (lv_at hl 0 rfl) ?_
  obtain ⟨q11, h11, hf⟩ := bind_some hf
  refine krX10_40_X10_finish F K E hA Z h11 ⟨Nat.le_of_ble_eq_true rfl, Nat.le_of_ble_eq_true rfl⟩ hl.1 (Nat.le_of_ble_eq_true rfl) dX10_wholeFormula_11 (fun H locs Z => ?_)
  have hf := Option.some.inj hf
  subst hf
  exact ret_i F hr hk Z dX10_wholeFormula_14
def f_X10_wholeTerm_24 (n : Nat) (st : StT) (x2 : Int32) (x3 : Int32) : Option (Int32 × StT) := (f_X10_putTerm_24 n (uF (uF st 14 (0 : Int32)) 15 x3) x2).bind fun q13 => ((f_X10_finish n q13).bind fun q17 => (some (q17.1, q17.2)))
theorem wd786 : Cond.methodLink RX10 47 yX10_putTerm ∈ Gw := gT5 (List.mem_of_getElem? (i := 4) rfl) rfl
theorem wd787 : Cond.code yX10_putTerm prog_12_method_15_code 8 none ∈ Gw := gT5 (List.mem_of_getElem? (i := 7) rfl) rfl
theorem wd788 : Cond.instanceMethod yX10_putTerm ∈ Gw := gT5 (List.mem_of_getElem? (i := 6) rfl) rfl
theorem wd789 : Cond.selects RX10 yX10_putTerm yX10_putTerm ∈ Gw := gP3 (q := (yX10_putTerm, 8)) (List.mem_of_getElem? (i := 13) rfl)
section
variable {p : Program} {l : Launch} {e : Env} {R : Room} {s : State} {m : MethodId} {args : Array Value} {below : List Frame} {meth : Method} {c : Code} {H : Heap} {locs : List Loc} {Q : State → Prop}
variable {cc : ByteArray} {nL pc : Nat} {ls : Array Slot} {rest : List Value} {D : va_G} {A : Nat → Prop} {cw : Cond} {ad : Nat → Nat} {cy : Nat → ClassId} {ee : EE} {st : StT} {own : String}
theorem krX10_47_X10_putTerm_24 {n : Nat} {a1 : Int32} {q : StT} (F : CallFix p m c cc nL s args (cw :: Gw) RX10) (K : va_K D vwCl (tyL cy) s) (E : EV ee A s s.heap) (hA : ∀ q, s.heap.size ≤ q → A q) (Z : ZG D (wC ad cy st) A s H locs) (hf : f_X10_putTerm_24 n st a1 = some q) (hR : 9 ≤ R.frames ∧ 206 ≤ R.locals) (hl : ls.size = nL) (hst : (rest.map fun v => v.category).sum ≤ 8) (hd : decode cc pc = .ok (.invokevirtual 47, 3)) (kk : ∀ (H1 : Heap) (locs1 : List Loc), ZG D (wC ad cy q) A s H1 locs1 → W p l e R s m args below meth c H1 locs1 0 0 Q (F0 m (pc + 3) ls (rest))) : W p l e R s m args below meth c H locs 0 0 Q (F0 m pc ls (.int a1 :: .ref (ad 24) :: .ref (ad 18) :: rest)) :=
  call_V (q := (RX10, TX10, 8)) (n := 2) (As := [.ref (ad 24), .int a1]) (rv := none) 18 10 F K E hA Z (c_X10_putTerm_24 (l := l) (D := D) (ad := ad) (cy := cy) (ee := ee) hf) ⟨wd787, wd786, wd788, wd789, wd519⟩ (by decide +kernel) rfl rfl hR rfl hl hst hd kk
end
set_option maxRecDepth 100000 in
set_option maxHeartbeats 4000000 in
theorem c_X10_wholeTerm_24 {l : Launch} {D : va_G} {ad : Nat → Nat} {cy : Nat → ClassId} {ee : EE} {n : Nat} {st : StT} {x2 : Int32} {x3 : Int32} {res : (Int32 × StT)} (hf : f_X10_wholeTerm_24 n st x2 x3 = some res) : CT l yX10_wholeTerm cX10_wholeTerm 4 (some .int) 9 206 D cy ee (wC ad cy st) (wC ad cy res.2) [.ref (ad 18), .ref (ad 24), .int x2, .int x3] (some (.int res.1)) := by
  refine CT.of (by decide +kernel) (Nat.le_of_ble_eq_true rfl) ?_
  intro p e s m args below meth c A F hr hk K E hA Z ls hl
  have hl : lv_has ls 4 [(0, .ref (ad 18)), (1, .ref (ad 24)), (2, .int x2), (3, .int x3)] := hl
  have hx := F.1
  have hb := F.2.1
  unfold f_X10_wholeTerm_24 at hf
  refine lv_aload_n hx hb dX10_wholeTerm_0 rfl (lv_at hl 0 rfl) ?_
  refine lv_iconst (v := 0) hx hb dX10_wholeTerm_1 (by decide) ?_
  refine prX10_33_18 F K Z dX10_wholeTerm_2 (fun H locs Z => ?_)
  refine lv_aload_n hx hb dX10_wholeTerm_5 rfl (lv_at hl 0 rfl) ?_
  refine lv_iload_n hx hb dX10_wholeTerm_6 rfl (lv_at hl 3 rfl) ?_
  refine prX10_44_18 F K Z dX10_wholeTerm_7 (fun H locs Z => ?_)
  refine lv_aload_n hx hb dX10_wholeTerm_10 rfl (lv_at hl 0 rfl) ?_
  refine lv_aload_n hx hb dX10_wholeTerm_11 rfl (lv_at hl 1 rfl) ?_
  refine lv_iload_n hx hb dX10_wholeTerm_12 rfl (lv_at hl 2 rfl) ?_
  obtain ⟨q13, h13, hf⟩ := bind_some hf
  refine krX10_47_X10_putTerm_24 F K E hA Z h13 ⟨Nat.le_of_ble_eq_true rfl, Nat.le_of_ble_eq_true rfl⟩ hl.1 (Nat.le_of_ble_eq_true rfl) dX10_wholeTerm_13 (fun H locs Z => ?_)
  refine lv_aload_n hx hb dX10_wholeTerm_16 rfl (lv_at hl 0 rfl) ?_
  obtain ⟨q17, h17, hf⟩ := bind_some hf
  refine krX10_40_X10_finish F K E hA Z h17 ⟨Nat.le_of_ble_eq_true rfl, Nat.le_of_ble_eq_true rfl⟩ hl.1 (Nat.le_of_ble_eq_true rfl) dX10_wholeTerm_17 (fun H locs Z => ?_)
  have hf := Option.some.inj hf
  subst hf
  exact ret_i F hr hk Z dX10_wholeTerm_20
