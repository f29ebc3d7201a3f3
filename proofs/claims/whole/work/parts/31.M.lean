def f_X12_term (n : Nat) (st : StT) (x1 : Int32) (x2 : Int32) (x3 : Int32) (x4 : Int32) (x5 : Int32) : Option (Int32 × StT) := if inB (st.1 18) 60000 = true then (if inB ((uA st 14 (st.1 18) x1).1 18) 60000 = true then (if inB ((uA (uA st 14 (st.1 18) x1) 15 ((uA st 14 (st.1 18) x1).1 18) x2).1 18) 60000 = true then (if inB ((uA (uA (uA st 14 (st.1 18) x1) 15 ((uA st 14 (st.1 18) x1).1 18) x2) 16 ((uA (uA st 14 (st.1 18) x1) 15 ((uA st 14 (st.1 18) x1).1 18) x2).1 18) x3).1 18) 60000 = true then (if inB ((uA (uA (uA (uA st 14 (st.1 18) x1) 15 ((uA st 14 (st.1 18) x1).1 18) x2) 16 ((uA (uA st 14 (st.1 18) x1) 15 ((uA st 14 (st.1 18) x1).1 18) x2).1 18) x3) 17 ((uA (uA (uA st 14 (st.1 18) x1) 15 ((uA st 14 (st.1 18) x1).1 18) x2) 16 ((uA (uA st 14 (st.1 18) x1) 15 ((uA st 14 (st.1 18) x1).1 18) x2).1 18) x3).1 18) x4).1 18) 60000 = true then (some ((((uF (uA (uA (uA (uA (uA st 14 (st.1 18) x1) 15 ((uA st 14 (st.1 18) x1).1 18) x2) 16 ((uA (uA st 14 (st.1 18) x1) 15 ((uA st 14 (st.1 18) x1).1 18) x2).1 18) x3) 17 ((uA (uA (uA st 14 (st.1 18) x1) 15 ((uA st 14 (st.1 18) x1).1 18) x2) 16 ((uA (uA st 14 (st.1 18) x1) 15 ((uA st 14 (st.1 18) x1).1 18) x2).1 18) x3).1 18) x4) 18 ((uA (uA (uA (uA st 14 (st.1 18) x1) 15 ((uA st 14 (st.1 18) x1).1 18) x2) 16 ((uA (uA st 14 (st.1 18) x1) 15 ((uA st 14 (st.1 18) x1).1 18) x2).1 18) x3) 17 ((uA (uA (uA st 14 (st.1 18) x1) 15 ((uA st 14 (st.1 18) x1).1 18) x2) 16 ((uA (uA st 14 (st.1 18) x1) 15 ((uA st 14 (st.1 18) x1).1 18) x2).1 18) x3).1 18) x4).1 18) x5) 18 (((uA (uA (uA (uA (uA st 14 (st.1 18) x1) 15 ((uA st 14 (st.1 18) x1).1 18) x2) 16 ((uA (uA st 14 (st.1 18) x1) 15 ((uA st 14 (st.1 18) x1).1 18) x2).1 18) x3) 17 ((uA (uA (uA st 14 (st.1 18) x1) 15 ((uA st 14 (st.1 18) x1).1 18) x2) 16 ((uA (uA st 14 (st.1 18) x1) 15 ((uA st 14 (st.1 18) x1).1 18) x2).1 18) x3).1 18) x4) 18 ((uA (uA (uA (uA st 14 (st.1 18) x1) 15 ((uA st 14 (st.1 18) x1).1 18) x2) 16 ((uA (uA st 14 (st.1 18) x1) 15 ((uA st 14 (st.1 18) x1).1 18) x2).1 18) x3) 17 ((uA (uA (uA st 14 (st.1 18) x1) 15 ((uA st 14 (st.1 18) x1).1 18) x2) 16 ((uA (uA st 14 (st.1 18) x1) 15 ((uA st 14 (st.1 18) x1).1 18) x2).1 18) x3).1 18) x4).1 18) x5).1 18) + (1 : Int32))).1 18) - (1 : Int32)), (uF (uA (uA (uA (uA (uA st 14 (st.1 18) x1) 15 ((uA st 14 (st.1 18) x1).1 18) x2) 16 ((uA (uA st 14 (st.1 18) x1) 15 ((uA st 14 (st.1 18) x1).1 18) x2).1 18) x3) 17 ((uA (uA (uA st 14 (st.1 18) x1) 15 ((uA st 14 (st.1 18) x1).1 18) x2) 16 ((uA (uA st 14 (st.1 18) x1) 15 ((uA st 14 (st.1 18) x1).1 18) x2).1 18) x3).1 18) x4) 18 ((uA (uA (uA (uA st 14 (st.1 18) x1) 15 ((uA st 14 (st.1 18) x1).1 18) x2) 16 ((uA (uA st 14 (st.1 18) x1) 15 ((uA st 14 (st.1 18) x1).1 18) x2).1 18) x3) 17 ((uA (uA (uA st 14 (st.1 18) x1) 15 ((uA st 14 (st.1 18) x1).1 18) x2) 16 ((uA (uA st 14 (st.1 18) x1) 15 ((uA st 14 (st.1 18) x1).1 18) x2).1 18) x3).1 18) x4).1 18) x5) 18 (((uA (uA (uA (uA (uA st 14 (st.1 18) x1) 15 ((uA st 14 (st.1 18) x1).1 18) x2) 16 ((uA (uA st 14 (st.1 18) x1) 15 ((uA st 14 (st.1 18) x1).1 18) x2).1 18) x3) 17 ((uA (uA (uA st 14 (st.1 18) x1) 15 ((uA st 14 (st.1 18) x1).1 18) x2) 16 ((uA (uA st 14 (st.1 18) x1) 15 ((uA st 14 (st.1 18) x1).1 18) x2).1 18) x3).1 18) x4) 18 ((uA (uA (uA (uA st 14 (st.1 18) x1) 15 ((uA st 14 (st.1 18) x1).1 18) x2) 16 ((uA (uA st 14 (st.1 18) x1) 15 ((uA st 14 (st.1 18) x1).1 18) x2).1 18) x3) 17 ((uA (uA (uA st 14 (st.1 18) x1) 15 ((uA st 14 (st.1 18) x1).1 18) x2) 16 ((uA (uA st 14 (st.1 18) x1) 15 ((uA st 14 (st.1 18) x1).1 18) x2).1 18) x3).1 18) x4).1 18) x5).1 18) + (1 : Int32))))) else none) else none) else none) else none) else none
theorem wd1103 : Cond.fieldLink RX12 58 "WorldProverModel" "termKind" "[I" ∈ Gw := gT6 (List.mem_of_getElem? (i := 90) rfl) rfl
theorem wd1104 : Cond.fieldLink RX12 315 "WorldProverModel" "terms" "I" ∈ Gw := gT6 (List.mem_of_getElem? (i := 95) rfl) rfl
theorem wd1105 : Cond.fieldLink RX12 61 "WorldProverModel" "termNumber" "[I" ∈ Gw := gT6 (List.mem_of_getElem? (i := 91) rfl) rfl
theorem wd1106 : Cond.fieldLink RX12 64 "WorldProverModel" "termA" "[I" ∈ Gw := gT6 (List.mem_of_getElem? (i := 92) rfl) rfl
theorem wd1107 : Cond.fieldLink RX12 67 "WorldProverModel" "termB" "[I" ∈ Gw := gT6 (List.mem_of_getElem? (i := 93) rfl) rfl
theorem wd1108 : Cond.fieldLink RX12 70 "WorldProverModel" "termC" "[I" ∈ Gw := gT6 (List.mem_of_getElem? (i := 94) rfl) rfl
section
variable {p : Program} {l : Launch} {e : Env} {R : Room} {s : State} {m : MethodId} {args : Array Value} {below : List Frame} {meth : Method} {c : Code} {H : Heap} {locs : List Loc} {Q : State → Prop}
variable {cc : ByteArray} {nL pc : Nat} {ls : Array Slot} {rest : List Value} {D : va_G} {A : Nat → Prop} {cw : Cond} {ad : Nat → Nat} {cy : Nat → ClassId} {ee : EE} {st : StT} {own : String}
theorem gmX12_58 (F : CallFix p m c cc nL s args (cw :: Gw) RX12) (K : va_K D vwCl (tyL cy) s) (Z : ZG D (wM ad cy st) A s H locs) (hd : decode cc pc = .ok (.getfield 58, 3)) (kk : W p l e R s m args below meth c H locs 0 0 Q (F0 m (pc + 3) ls (.ref (ad 15) :: rest))) : W p l e R s m args below meth c H locs 0 0 Q (F0 m pc ls (.ref (ad 0) :: rest)) :=
  va_get (D := D) (ci := 12) (C := RX12) (T := TX12) (N := 98) F.1 F.2.1 F.2.2.2.2 (fun w h => List.mem_cons_of_mem _ (inG_X12 w h)) F.2.2.2.1 K Z.1 0 rfl rfl 32 (by decide) (F.2.2.2.2 _ (List.mem_cons_of_mem _ wd1103)) (fun _ h => h) rfl hd kk
theorem gmX12_315 (F : CallFix p m c cc nL s args (cw :: Gw) RX12) (K : va_K D vwCl (tyL cy) s) (Z : ZG D (wM ad cy st) A s H locs) (hd : decode cc pc = .ok (.getfield 315, 3)) (kk : W p l e R s m args below meth c H locs 0 0 Q (F0 m (pc + 3) ls (.int (st.1 18) :: rest))) : W p l e R s m args below meth c H locs 0 0 Q (F0 m pc ls (.ref (ad 0) :: rest)) :=
  va_get (D := D) (ci := 12) (C := RX12) (T := TX12) (N := 98) F.1 F.2.1 F.2.2.2.2 (fun w h => List.mem_cons_of_mem _ (inG_X12 w h)) F.2.2.2.1 K Z.1 0 rfl rfl 37 (by decide) (F.2.2.2.2 _ (List.mem_cons_of_mem _ wd1104)) (fun _ h => h) rfl hd kk
theorem ms15 {i : Int32} {v : Int32} (F : CallFix p m c cc nL s args (cw :: Gw) own) (K : va_K D vwCl (tyL cy) s) (Z : ZG D (wM ad cy st) A s H locs) (hi : inB i 60000 = true) (hd : decode cc pc = .ok (.iastore, 1)) (kk : ∀ (H1 : Heap) (locs1 : List Loc), ZG D (wM ad cy (uA st 14 i v)) A s H1 locs1 → W p l e R s m args below meth c H1 locs1 0 0 Q (F0 m (pc + 1) ls rest)) : W p l e R s m args below meth c H locs 0 0 Q (F0 m pc ls (.int v :: .int i :: .ref (ad 15) :: rest)) :=
  va_iast F.1 F.2.1 K Z.1 Z.2.1 Z.2.2 15 1 rfl rfl (inB_vp hi) hd (fun H1 locs1 hP hD hS => kk H1 locs1 ⟨hP, hD, hS⟩)
theorem gmX12_61 (F : CallFix p m c cc nL s args (cw :: Gw) RX12) (K : va_K D vwCl (tyL cy) s) (Z : ZG D (wM ad cy st) A s H locs) (hd : decode cc pc = .ok (.getfield 61, 3)) (kk : W p l e R s m args below meth c H locs 0 0 Q (F0 m (pc + 3) ls (.ref (ad 16) :: rest))) : W p l e R s m args below meth c H locs 0 0 Q (F0 m pc ls (.ref (ad 0) :: rest)) :=
  va_get (D := D) (ci := 12) (C := RX12) (T := TX12) (N := 98) F.1 F.2.1 F.2.2.2.2 (fun w h => List.mem_cons_of_mem _ (inG_X12 w h)) F.2.2.2.1 K Z.1 0 rfl rfl 33 (by decide) (F.2.2.2.2 _ (List.mem_cons_of_mem _ wd1105)) (fun _ h => h) rfl hd kk
theorem ms16 {i : Int32} {v : Int32} (F : CallFix p m c cc nL s args (cw :: Gw) own) (K : va_K D vwCl (tyL cy) s) (Z : ZG D (wM ad cy st) A s H locs) (hi : inB i 60000 = true) (hd : decode cc pc = .ok (.iastore, 1)) (kk : ∀ (H1 : Heap) (locs1 : List Loc), ZG D (wM ad cy (uA st 15 i v)) A s H1 locs1 → W p l e R s m args below meth c H1 locs1 0 0 Q (F0 m (pc + 1) ls rest)) : W p l e R s m args below meth c H locs 0 0 Q (F0 m pc ls (.int v :: .int i :: .ref (ad 16) :: rest)) :=
  va_iast F.1 F.2.1 K Z.1 Z.2.1 Z.2.2 16 1 rfl rfl (inB_vp hi) hd (fun H1 locs1 hP hD hS => kk H1 locs1 ⟨hP, hD, hS⟩)
theorem gmX12_64 (F : CallFix p m c cc nL s args (cw :: Gw) RX12) (K : va_K D vwCl (tyL cy) s) (Z : ZG D (wM ad cy st) A s H locs) (hd : decode cc pc = .ok (.getfield 64, 3)) (kk : W p l e R s m args below meth c H locs 0 0 Q (F0 m (pc + 3) ls (.ref (ad 17) :: rest))) : W p l e R s m args below meth c H locs 0 0 Q (F0 m pc ls (.ref (ad 0) :: rest)) :=
  va_get (D := D) (ci := 12) (C := RX12) (T := TX12) (N := 98) F.1 F.2.1 F.2.2.2.2 (fun w h => List.mem_cons_of_mem _ (inG_X12 w h)) F.2.2.2.1 K Z.1 0 rfl rfl 34 (by decide) (F.2.2.2.2 _ (List.mem_cons_of_mem _ wd1106)) (fun _ h => h) rfl hd kk
theorem ms17 {i : Int32} {v : Int32} (F : CallFix p m c cc nL s args (cw :: Gw) own) (K : va_K D vwCl (tyL cy) s) (Z : ZG D (wM ad cy st) A s H locs) (hi : inB i 60000 = true) (hd : decode cc pc = .ok (.iastore, 1)) (kk : ∀ (H1 : Heap) (locs1 : List Loc), ZG D (wM ad cy (uA st 16 i v)) A s H1 locs1 → W p l e R s m args below meth c H1 locs1 0 0 Q (F0 m (pc + 1) ls rest)) : W p l e R s m args below meth c H locs 0 0 Q (F0 m pc ls (.int v :: .int i :: .ref (ad 17) :: rest)) :=
  va_iast F.1 F.2.1 K Z.1 Z.2.1 Z.2.2 17 1 rfl rfl (inB_vp hi) hd (fun H1 locs1 hP hD hS => kk H1 locs1 ⟨hP, hD, hS⟩)
theorem gmX12_67 (F : CallFix p m c cc nL s args (cw :: Gw) RX12) (K : va_K D vwCl (tyL cy) s) (Z : ZG D (wM ad cy st) A s H locs) (hd : decode cc pc = .ok (.getfield 67, 3)) (kk : W p l e R s m args below meth c H locs 0 0 Q (F0 m (pc + 3) ls (.ref (ad 18) :: rest))) : W p l e R s m args below meth c H locs 0 0 Q (F0 m pc ls (.ref (ad 0) :: rest)) :=
  va_get (D := D) (ci := 12) (C := RX12) (T := TX12) (N := 98) F.1 F.2.1 F.2.2.2.2 (fun w h => List.mem_cons_of_mem _ (inG_X12 w h)) F.2.2.2.1 K Z.1 0 rfl rfl 35 (by decide) (F.2.2.2.2 _ (List.mem_cons_of_mem _ wd1107)) (fun _ h => h) rfl hd kk
theorem ms18 {i : Int32} {v : Int32} (F : CallFix p m c cc nL s args (cw :: Gw) own) (K : va_K D vwCl (tyL cy) s) (Z : ZG D (wM ad cy st) A s H locs) (hi : inB i 60000 = true) (hd : decode cc pc = .ok (.iastore, 1)) (kk : ∀ (H1 : Heap) (locs1 : List Loc), ZG D (wM ad cy (uA st 17 i v)) A s H1 locs1 → W p l e R s m args below meth c H1 locs1 0 0 Q (F0 m (pc + 1) ls rest)) : W p l e R s m args below meth c H locs 0 0 Q (F0 m pc ls (.int v :: .int i :: .ref (ad 18) :: rest)) :=
  va_iast F.1 F.2.1 K Z.1 Z.2.1 Z.2.2 18 1 rfl rfl (inB_vp hi) hd (fun H1 locs1 hP hD hS => kk H1 locs1 ⟨hP, hD, hS⟩)
theorem gmX12_70 (F : CallFix p m c cc nL s args (cw :: Gw) RX12) (K : va_K D vwCl (tyL cy) s) (Z : ZG D (wM ad cy st) A s H locs) (hd : decode cc pc = .ok (.getfield 70, 3)) (kk : W p l e R s m args below meth c H locs 0 0 Q (F0 m (pc + 3) ls (.ref (ad 19) :: rest))) : W p l e R s m args below meth c H locs 0 0 Q (F0 m pc ls (.ref (ad 0) :: rest)) :=
  va_get (D := D) (ci := 12) (C := RX12) (T := TX12) (N := 98) F.1 F.2.1 F.2.2.2.2 (fun w h => List.mem_cons_of_mem _ (inG_X12 w h)) F.2.2.2.1 K Z.1 0 rfl rfl 36 (by decide) (F.2.2.2.2 _ (List.mem_cons_of_mem _ wd1108)) (fun _ h => h) rfl hd kk
theorem ms19 {i : Int32} {v : Int32} (F : CallFix p m c cc nL s args (cw :: Gw) own) (K : va_K D vwCl (tyL cy) s) (Z : ZG D (wM ad cy st) A s H locs) (hi : inB i 60000 = true) (hd : decode cc pc = .ok (.iastore, 1)) (kk : ∀ (H1 : Heap) (locs1 : List Loc), ZG D (wM ad cy (uA st 18 i v)) A s H1 locs1 → W p l e R s m args below meth c H1 locs1 0 0 Q (F0 m (pc + 1) ls rest)) : W p l e R s m args below meth c H locs 0 0 Q (F0 m pc ls (.int v :: .int i :: .ref (ad 19) :: rest)) :=
  va_iast F.1 F.2.1 K Z.1 Z.2.1 Z.2.2 19 1 rfl rfl (inB_vp hi) hd (fun H1 locs1 hP hD hS => kk H1 locs1 ⟨hP, hD, hS⟩)
theorem pmX12_315 {v : Int32} (F : CallFix p m c cc nL s args (cw :: Gw) RX12) (K : va_K D vwCl (tyL cy) s) (Z : ZG D (wM ad cy st) A s H locs) (hd : decode cc pc = .ok (.putfield 315, 3)) (kk : ∀ (H1 : Heap) (locs1 : List Loc), ZG D (wM ad cy (uF st 18 v)) A s H1 locs1 → W p l e R s m args below meth c H1 locs1 0 0 Q (F0 m (pc + 3) ls rest)) : W p l e R s m args below meth c H locs 0 0 Q (F0 m pc ls (.int v :: .ref (ad 0) :: rest)) :=
  va_put (D := D) (ci := 12) (v := .int v) (ty := .int) (C := RX12) (T := TX12) (N := 98) F.1 F.2.1 F.2.2.2.2 (fun w h => List.mem_cons_of_mem _ (inG_X12 w h)) tyX12 tyX12_ok nmX12 F.2.2.2.1 K Z.1 Z.2.1 Z.2.2 0 rfl rfl 37 (by decide) (F.2.2.2.2 _ (List.mem_cons_of_mem _ wd1104)) (fun _ h => h) rfl (by decide +kernel) rfl rfl (Nat.le_of_ble_eq_true rfl) hd (fun H1 locs1 hP hD hS => kk H1 locs1 ⟨hP, hD, hS⟩)
end
set_option maxRecDepth 100000 in
set_option maxHeartbeats 4000000 in
theorem c_X12_term {l : Launch} {D : va_G} {ad : Nat → Nat} {cy : Nat → ClassId} {ee : EE} {n : Nat} {st : StT} {x1 : Int32} {x2 : Int32} {x3 : Int32} {x4 : Int32} {x5 : Int32} {res : (Int32 × StT)} (hf : f_X12_term n st x1 x2 x3 x4 x5 = some res) : CT l yX12_term cX12_term 6 (some .int) 0 0 D cy ee (wM ad cy st) (wM ad cy res.2) [.ref (ad 0), .int x1, .int x2, .int x3, .int x4, .int x5] (some (.int res.1)) := by
  refine CT.of (by decide +kernel) (Nat.le_of_ble_eq_true rfl) ?_
  intro p e s m args below meth c A F hr hk K E hA Z ls hl
  have hl : lv_has ls 6 [(0, .ref (ad 0)), (1, .int x1), (2, .int x2), (3, .int x3), (4, .int x4), (5, .int x5)] := hl
  have hx := F.1
  have hb := F.2.1
  unfold f_X12_term at hf
  refine lv_aload_n hx hb dX12_term_0 rfl (lv_at hl 0 rfl) ?_
  refine gmX12_58 F K Z dX12_term_1 ?_
  refine lv_aload_n hx hb dX12_term_4 rfl (lv_at hl 0 rfl) ?_
  refine gmX12_315 F K Z dX12_term_5 ?_
  refine lv_iload_n hx hb dX12_term_8 rfl (lv_at hl 1 rfl) ?_
  obtain ⟨i9, hf⟩ := if_some hf
  refine ms15 F K Z i9 dX12_term_9 (fun H locs Z => ?_)
  refine lv_aload_n hx hb dX12_term_10 rfl (lv_at hl 0 rfl) ?_
  refine gmX12_61 F K Z dX12_term_11 ?_
  refine lv_aload_n hx hb dX12_term_14 rfl (lv_at hl 0 rfl) ?_
  refine gmX12_315 F K Z dX12_term_15 ?_
  refine lv_iload_n hx hb dX12_term_18 rfl (lv_at hl 2 rfl) ?_
  obtain ⟨i19, hf⟩ := if_some hf
  refine ms16 F K Z i19 dX12_term_19 (fun H locs Z => ?_)
  refine lv_aload_n hx hb dX12_term_20 rfl (lv_at hl 0 rfl) ?_
  refine gmX12_64 F K Z dX12_term_21 ?_
  refine lv_aload_n hx hb dX12_term_24 rfl (lv_at hl 0 rfl) ?_
  refine gmX12_315 F K Z dX12_term_25 ?_
  refine lv_iload_n hx hb dX12_term_28 rfl (lv_at hl 3 rfl) ?_
  obtain ⟨i29, hf⟩ := if_some hf
  refine ms17 F K Z i29 dX12_term_29 (fun H locs Z => ?_)
  refine lv_aload_n hx hb dX12_term_30 rfl (lv_at hl 0 rfl) ?_
  refine gmX12_67 F K Z dX12_term_31 ?_
  refine lv_aload_n hx hb dX12_term_34 rfl (lv_at hl 0 rfl) ?_
  refine gmX12_315 F K Z dX12_term_35 ?_
  refine lv_iload hx hb dX12_term_38 (lv_at hl 4 rfl) ?_
  obtain ⟨i40, hf⟩ := if_some hf
  refine ms18 F K Z i40 dX12_term_40 (fun H locs Z => ?_)
  refine lv_aload_n hx hb dX12_term_41 rfl (lv_at hl 0 rfl) ?_
  refine gmX12_70 F K Z dX12_term_42 ?_
  refine lv_aload_n hx hb dX12_term_45 rfl (lv_at hl 0 rfl) ?_
  refine gmX12_315 F K Z dX12_term_46 ?_
  refine lv_iload hx hb dX12_term_49 (lv_at hl 5 rfl) ?_
  obtain ⟨i51, hf⟩ := if_some hf
  refine ms19 F K Z i51 dX12_term_51 (fun H locs Z => ?_)
  refine lv_aload_n hx hb dX12_term_52 rfl (lv_at hl 0 rfl) ?_
  refine lv_dup hx hb dX12_term_53 rfl ?_
  refine gmX12_315 F K Z dX12_term_54 ?_
  refine lv_iconst (v := 1) hx hb dX12_term_57 (by decide) ?_
  refine lv_iadd hx hb dX12_term_58 ?_
  refine pmX12_315 F K Z dX12_term_59 (fun H locs Z => ?_)
  refine lv_aload_n hx hb dX12_term_62 rfl (lv_at hl 0 rfl) ?_
  refine gmX12_315 F K Z dX12_term_63 ?_
  refine lv_iconst (v := 1) hx hb dX12_term_66 (by decide) ?_
  refine lv_isub hx hb dX12_term_67 ?_
  have hf := Option.some.inj hf
  subst hf
  exact ret_i F hr hk Z dX12_term_68
def f_X12_hypothesis (n : Nat) (st : StT) (x1 : Int32) : Option (Int32 × StT) := (f_X12_term n st (72 : Int32) x1 (-1 : Int32) (-1 : Int32) (-1 : Int32)).bind fun q7 => (some (q7.1, q7.2))
theorem wd1109 : Cond.methodLink RX12 318 yX12_term ∈ Gw := gT8 (List.mem_of_getElem? (i := 93) rfl) rfl
theorem wd1110 : Cond.code yX12_term prog_14_method_23_code 6 (some .int) ∈ Gw := gT8 (List.mem_of_getElem? (i := 96) rfl) rfl
theorem wd1111 : Cond.instanceMethod yX12_term ∈ Gw := gT8 (List.mem_of_getElem? (i := 95) rfl) rfl
theorem wd1112 : Cond.selects RX12 yX12_term yX12_term ∈ Gw := gP7 (q := (yX12_term, 98)) (List.mem_of_getElem? (i := 8) rfl)
section
variable {p : Program} {l : Launch} {e : Env} {R : Room} {s : State} {m : MethodId} {args : Array Value} {below : List Frame} {meth : Method} {c : Code} {H : Heap} {locs : List Loc} {Q : State → Prop}
variable {cc : ByteArray} {nL pc : Nat} {ls : Array Slot} {rest : List Value} {D : va_G} {A : Nat → Prop} {cw : Cond} {ad : Nat → Nat} {cy : Nat → ClassId} {ee : EE} {st : StT} {own : String}
theorem krX12_318_X12_term {n : Nat} {a0 : Int32} {a1 : Int32} {a2 : Int32} {a3 : Int32} {a4 : Int32} {q : (Int32 × StT)} (F : CallFix p m c cc nL s args (cw :: Gw) RX12) (K : va_K D vwCl (tyL cy) s) (E : EV ee A s s.heap) (hA : ∀ q, s.heap.size ≤ q → A q) (Z : ZG D (wM ad cy st) A s H locs) (hf : f_X12_term n st a0 a1 a2 a3 a4 = some q) (hR : 1 ≤ R.frames ∧ 25 ≤ R.locals) (hl : ls.size = nL) (hst : (rest.map fun v => v.category).sum ≤ 8) (hd : decode cc pc = .ok (.invokevirtual 318, 3)) (kk : ∀ (H1 : Heap) (locs1 : List Loc), ZG D (wM ad cy q.2) A s H1 locs1 → W p l e R s m args below meth c H1 locs1 0 0 Q (F0 m (pc + 3) ls (.int q.1 :: rest))) : W p l e R s m args below meth c H locs 0 0 Q (F0 m pc ls (.int a4 :: .int a3 :: .int a2 :: .int a1 :: .int a0 :: .ref (ad 0) :: rest)) :=
  call_V (q := (RX12, TX12, 98)) (n := 5) (As := [.int a0, .int a1, .int a2, .int a3, .int a4]) (rv := some (.int q.1)) 0 12 F K E hA Z (c_X12_term (l := l) (D := D) (ad := ad) (cy := cy) (ee := ee) hf) ⟨wd1110, wd1109, wd1111, wd1112, wd1008⟩ (by decide +kernel) rfl rfl hR rfl hl hst hd kk
end
set_option maxRecDepth 100000 in
set_option maxHeartbeats 4000000 in
theorem c_X12_hypothesis {l : Launch} {D : va_G} {ad : Nat → Nat} {cy : Nat → ClassId} {ee : EE} {n : Nat} {st : StT} {x1 : Int32} {res : (Int32 × StT)} (hf : f_X12_hypothesis n st x1 = some res) : CT l yX12_hypothesis cX12_hypothesis 2 (some .int) 1 25 D cy ee (wM ad cy st) (wM ad cy res.2) [.ref (ad 0), .int x1] (some (.int res.1)) := by
  refine CT.of (by decide +kernel) (Nat.le_of_ble_eq_true rfl) ?_
  intro p e s m args below meth c A F hr hk K E hA Z ls hl
  have hl : lv_has ls 2 [(0, .ref (ad 0)), (1, .int x1)] := hl
  have hx := F.1
  have hb := F.2.1
  unfold f_X12_hypothesis at hf
  refine lv_aload_n hx hb dX12_hypothesis_0 rfl (lv_at hl 0 rfl) ?_
  refine lv_bipush (v := 72) hx hb dX12_hypothesis_1 (by decide) ?_
  refine lv_iload_n hx hb dX12_hypothesis_3 rfl (lv_at hl 1 rfl) ?_
  refine lv_iconst (v := -1) hx hb dX12_hypothesis_4 (by decide) ?_
  refine lv_iconst (v := -1) hx hb dX12_hypothesis_5 (by decide) ?_
  refine lv_iconst (v := -1) hx hb dX12_hypothesis_6 (by decide) ?_
  obtain ⟨q7, h7, hf⟩ := bind_some hf
  refine krX12_318_X12_term F K E hA Z h7 ⟨Nat.le_of_ble_eq_true rfl, Nat.le_of_ble_eq_true rfl⟩ hl.1 (Nat.le_of_ble_eq_true rfl) dX12_hypothesis_7 (fun H locs Z => ?_)
  have hf := Option.some.inj hf
  subst hf
  exact ret_i F hr hk Z dX12_hypothesis_10
def f_X12_newWorld_45 (n : Nat) : Nat → StT → Int32 → Int32 → Int32 → Option (Int32 × StT)
  | 0, _, _, _, _ => none
  | k + 1, st, x1, x2, x3 => if inB x1 201 = true then (if (st.2.1 22 (x1).toNatClampNeg) ≤ x3 then (some (x2, st)) else (if inB (((60 : Int32) * x1) + x3) 12060 = true then (if inB x2 2100 = true then (if inB (st.2.1 19 ((((60 : Int32) * x1) + x3)).toNatClampNeg) 4200 = true then (if (st.2.1 0 ((st.2.1 19 ((((60 : Int32) * x1) + x3)).toNatClampNeg)).toNatClampNeg) = (2 : Int32) then (if inB (st.2.1 19 ((((60 : Int32) * x1) + x3)).toNatClampNeg) 4200 = true then (if inB x2 2100 = true then (f_X12_newWorld_45 n k (uA st 32 x2 ((st.2.1 32 (x2).toNatClampNeg) ||| ((1 : Int32) <<< ((st.2.1 1 ((st.2.1 19 ((((60 : Int32) * x1) + x3)).toNatClampNeg)).toNatClampNeg) &&& 31)))) x1 x2 (x3 + (1 : Int32))) else none) else none) else (if inB x2 2100 = true then (f_X12_newWorld_45 n k (uA st 32 x2 ((st.2.1 32 (x2).toNatClampNeg) ||| (0 : Int32))) x1 x2 (x3 + (1 : Int32))) else none)) else none) else none) else none)) else none
def f_X12_newWorld (n : Nat) (st : StT) (x1 : Int32) : Option (Int32 × StT) := if inB (st.1 30) 2100 = true then (if inB (st.1 30) 2100 = true then (if inB (st.1 30) 2100 = true then (if inB (st.1 30) 2100 = true then (f_X12_newWorld_45 n n (uA (uA (uA (uA (uF st 30 ((st.1 30) + (1 : Int32))) 29 (st.1 30) (-1 : Int32)) 30 (st.1 30) (-1 : Int32)) 31 (st.1 30) (-1 : Int32)) 32 (st.1 30) (0 : Int32)) x1 (st.1 30) (0 : Int32)) else none) else none) else none) else none
theorem wd1113 : Cond.fieldLink RX12 322 "WorldProverModel" "nodes" "I" ∈ Gw := gT6 (List.mem_of_getElem? (i := 121) rfl) rfl
theorem wd1114 : Cond.fieldLink RX12 106 "WorldProverModel" "childFirst" "[I" ∈ Gw := gT6 (List.mem_of_getElem? (i := 117) rfl) rfl
theorem wd1115 : Cond.fieldLink RX12 109 "WorldProverModel" "childLast" "[I" ∈ Gw := gT6 (List.mem_of_getElem? (i := 118) rfl) rfl
theorem wd1116 : Cond.fieldLink RX12 112 "WorldProverModel" "sibling" "[I" ∈ Gw := gT6 (List.mem_of_getElem? (i := 119) rfl) rfl
theorem wd1117 : Cond.fieldLink RX12 115 "WorldProverModel" "forcedIn" "[I" ∈ Gw := gT6 (List.mem_of_getElem? (i := 120) rfl) rfl
theorem wd1118 : Cond.fieldLink RX12 82 "WorldProverModel" "leftCount" "[I" ∈ Gw := gT6 (List.mem_of_getElem? (i := 99) rfl) rfl
theorem wd1119 : Cond.fieldLink RX12 73 "WorldProverModel" "left" "[I" ∈ Gw := gT6 (List.mem_of_getElem? (i := 96) rfl) rfl
section
variable {p : Program} {l : Launch} {e : Env} {R : Room} {s : State} {m : MethodId} {args : Array Value} {below : List Frame} {meth : Method} {c : Code} {H : Heap} {locs : List Loc} {Q : State → Prop}
variable {cc : ByteArray} {nL pc : Nat} {ls : Array Slot} {rest : List Value} {D : va_G} {A : Nat → Prop} {cw : Cond} {ad : Nat → Nat} {cy : Nat → ClassId} {ee : EE} {st : StT} {own : String}
theorem gmX12_322 (F : CallFix p m c cc nL s args (cw :: Gw) RX12) (K : va_K D vwCl (tyL cy) s) (Z : ZG D (wM ad cy st) A s H locs) (hd : decode cc pc = .ok (.getfield 322, 3)) (kk : W p l e R s m args below meth c H locs 0 0 Q (F0 m (pc + 3) ls (.int (st.1 30) :: rest))) : W p l e R s m args below meth c H locs 0 0 Q (F0 m pc ls (.ref (ad 0) :: rest)) :=
  va_get (D := D) (ci := 12) (C := RX12) (T := TX12) (N := 98) F.1 F.2.1 F.2.2.2.2 (fun w h => List.mem_cons_of_mem _ (inG_X12 w h)) F.2.2.2.1 K Z.1 0 rfl rfl 63 (by decide) (F.2.2.2.2 _ (List.mem_cons_of_mem _ wd1113)) (fun _ h => h) rfl hd kk
theorem pmX12_322 {v : Int32} (F : CallFix p m c cc nL s args (cw :: Gw) RX12) (K : va_K D vwCl (tyL cy) s) (Z : ZG D (wM ad cy st) A s H locs) (hd : decode cc pc = .ok (.putfield 322, 3)) (kk : ∀ (H1 : Heap) (locs1 : List Loc), ZG D (wM ad cy (uF st 30 v)) A s H1 locs1 → W p l e R s m args below meth c H1 locs1 0 0 Q (F0 m (pc + 3) ls rest)) : W p l e R s m args below meth c H locs 0 0 Q (F0 m pc ls (.int v :: .ref (ad 0) :: rest)) :=
  va_put (D := D) (ci := 12) (v := .int v) (ty := .int) (C := RX12) (T := TX12) (N := 98) F.1 F.2.1 F.2.2.2.2 (fun w h => List.mem_cons_of_mem _ (inG_X12 w h)) tyX12 tyX12_ok nmX12 F.2.2.2.1 K Z.1 Z.2.1 Z.2.2 0 rfl rfl 63 (by decide) (F.2.2.2.2 _ (List.mem_cons_of_mem _ wd1113)) (fun _ h => h) rfl (by decide +kernel) rfl rfl (Nat.le_of_ble_eq_true rfl) hd (fun H1 locs1 hP hD hS => kk H1 locs1 ⟨hP, hD, hS⟩)
theorem gmX12_106 (F : CallFix p m c cc nL s args (cw :: Gw) RX12) (K : va_K D vwCl (tyL cy) s) (Z : ZG D (wM ad cy st) A s H locs) (hd : decode cc pc = .ok (.getfield 106, 3)) (kk : W p l e R s m args below meth c H locs 0 0 Q (F0 m (pc + 3) ls (.ref (ad 30) :: rest))) : W p l e R s m args below meth c H locs 0 0 Q (F0 m pc ls (.ref (ad 0) :: rest)) :=
  va_get (D := D) (ci := 12) (C := RX12) (T := TX12) (N := 98) F.1 F.2.1 F.2.2.2.2 (fun w h => List.mem_cons_of_mem _ (inG_X12 w h)) F.2.2.2.1 K Z.1 0 rfl rfl 59 (by decide) (F.2.2.2.2 _ (List.mem_cons_of_mem _ wd1114)) (fun _ h => h) rfl hd kk
theorem ms30 {i : Int32} {v : Int32} (F : CallFix p m c cc nL s args (cw :: Gw) own) (K : va_K D vwCl (tyL cy) s) (Z : ZG D (wM ad cy st) A s H locs) (hi : inB i 2100 = true) (hd : decode cc pc = .ok (.iastore, 1)) (kk : ∀ (H1 : Heap) (locs1 : List Loc), ZG D (wM ad cy (uA st 29 i v)) A s H1 locs1 → W p l e R s m args below meth c H1 locs1 0 0 Q (F0 m (pc + 1) ls rest)) : W p l e R s m args below meth c H locs 0 0 Q (F0 m pc ls (.int v :: .int i :: .ref (ad 30) :: rest)) :=
  va_iast F.1 F.2.1 K Z.1 Z.2.1 Z.2.2 30 1 rfl rfl (inB_vp hi) hd (fun H1 locs1 hP hD hS => kk H1 locs1 ⟨hP, hD, hS⟩)
theorem gmX12_109 (F : CallFix p m c cc nL s args (cw :: Gw) RX12) (K : va_K D vwCl (tyL cy) s) (Z : ZG D (wM ad cy st) A s H locs) (hd : decode cc pc = .ok (.getfield 109, 3)) (kk : W p l e R s m args below meth c H locs 0 0 Q (F0 m (pc + 3) ls (.ref (ad 31) :: rest))) : W p l e R s m args below meth c H locs 0 0 Q (F0 m pc ls (.ref (ad 0) :: rest)) :=
  va_get (D := D) (ci := 12) (C := RX12) (T := TX12) (N := 98) F.1 F.2.1 F.2.2.2.2 (fun w h => List.mem_cons_of_mem _ (inG_X12 w h)) F.2.2.2.1 K Z.1 0 rfl rfl 60 (by decide) (F.2.2.2.2 _ (List.mem_cons_of_mem _ wd1115)) (fun _ h => h) rfl hd kk
theorem ms31 {i : Int32} {v : Int32} (F : CallFix p m c cc nL s args (cw :: Gw) own) (K : va_K D vwCl (tyL cy) s) (Z : ZG D (wM ad cy st) A s H locs) (hi : inB i 2100 = true) (hd : decode cc pc = .ok (.iastore, 1)) (kk : ∀ (H1 : Heap) (locs1 : List Loc), ZG D (wM ad cy (uA st 30 i v)) A s H1 locs1 → W p l e R s m args below meth c H1 locs1 0 0 Q (F0 m (pc + 1) ls rest)) : W p l e R s m args below meth c H locs 0 0 Q (F0 m pc ls (.int v :: .int i :: .ref (ad 31) :: rest)) :=
  va_iast F.1 F.2.1 K Z.1 Z.2.1 Z.2.2 31 1 rfl rfl (inB_vp hi) hd (fun H1 locs1 hP hD hS => kk H1 locs1 ⟨hP, hD, hS⟩)
theorem gmX12_112 (F : CallFix p m c cc nL s args (cw :: Gw) RX12) (K : va_K D vwCl (tyL cy) s) (Z : ZG D (wM ad cy st) A s H locs) (hd : decode cc pc = .ok (.getfield 112, 3)) (kk : W p l e R s m args below meth c H locs 0 0 Q (F0 m (pc + 3) ls (.ref (ad 32) :: rest))) : W p l e R s m args below meth c H locs 0 0 Q (F0 m pc ls (.ref (ad 0) :: rest)) :=
  va_get (D := D) (ci := 12) (C := RX12) (T := TX12) (N := 98) F.1 F.2.1 F.2.2.2.2 (fun w h => List.mem_cons_of_mem _ (inG_X12 w h)) F.2.2.2.1 K Z.1 0 rfl rfl 61 (by decide) (F.2.2.2.2 _ (List.mem_cons_of_mem _ wd1116)) (fun _ h => h) rfl hd kk
theorem ms32 {i : Int32} {v : Int32} (F : CallFix p m c cc nL s args (cw :: Gw) own) (K : va_K D vwCl (tyL cy) s) (Z : ZG D (wM ad cy st) A s H locs) (hi : inB i 2100 = true) (hd : decode cc pc = .ok (.iastore, 1)) (kk : ∀ (H1 : Heap) (locs1 : List Loc), ZG D (wM ad cy (uA st 31 i v)) A s H1 locs1 → W p l e R s m args below meth c H1 locs1 0 0 Q (F0 m (pc + 1) ls rest)) : W p l e R s m args below meth c H locs 0 0 Q (F0 m pc ls (.int v :: .int i :: .ref (ad 32) :: rest)) :=
  va_iast F.1 F.2.1 K Z.1 Z.2.1 Z.2.2 32 1 rfl rfl (inB_vp hi) hd (fun H1 locs1 hP hD hS => kk H1 locs1 ⟨hP, hD, hS⟩)
theorem gmX12_115 (F : CallFix p m c cc nL s args (cw :: Gw) RX12) (K : va_K D vwCl (tyL cy) s) (Z : ZG D (wM ad cy st) A s H locs) (hd : decode cc pc = .ok (.getfield 115, 3)) (kk : W p l e R s m args below meth c H locs 0 0 Q (F0 m (pc + 3) ls (.ref (ad 33) :: rest))) : W p l e R s m args below meth c H locs 0 0 Q (F0 m pc ls (.ref (ad 0) :: rest)) :=
  va_get (D := D) (ci := 12) (C := RX12) (T := TX12) (N := 98) F.1 F.2.1 F.2.2.2.2 (fun w h => List.mem_cons_of_mem _ (inG_X12 w h)) F.2.2.2.1 K Z.1 0 rfl rfl 62 (by decide) (F.2.2.2.2 _ (List.mem_cons_of_mem _ wd1117)) (fun _ h => h) rfl hd kk
theorem ms33 {i : Int32} {v : Int32} (F : CallFix p m c cc nL s args (cw :: Gw) own) (K : va_K D vwCl (tyL cy) s) (Z : ZG D (wM ad cy st) A s H locs) (hi : inB i 2100 = true) (hd : decode cc pc = .ok (.iastore, 1)) (kk : ∀ (H1 : Heap) (locs1 : List Loc), ZG D (wM ad cy (uA st 32 i v)) A s H1 locs1 → W p l e R s m args below meth c H1 locs1 0 0 Q (F0 m (pc + 1) ls rest)) : W p l e R s m args below meth c H locs 0 0 Q (F0 m pc ls (.int v :: .int i :: .ref (ad 33) :: rest)) :=
  va_iast F.1 F.2.1 K Z.1 Z.2.1 Z.2.2 33 1 rfl rfl (inB_vp hi) hd (fun H1 locs1 hP hD hS => kk H1 locs1 ⟨hP, hD, hS⟩)
theorem gmX12_82 (F : CallFix p m c cc nL s args (cw :: Gw) RX12) (K : va_K D vwCl (tyL cy) s) (Z : ZG D (wM ad cy st) A s H locs) (hd : decode cc pc = .ok (.getfield 82, 3)) (kk : W p l e R s m args below meth c H locs 0 0 Q (F0 m (pc + 3) ls (.ref (ad 23) :: rest))) : W p l e R s m args below meth c H locs 0 0 Q (F0 m pc ls (.ref (ad 0) :: rest)) :=
  va_get (D := D) (ci := 12) (C := RX12) (T := TX12) (N := 98) F.1 F.2.1 F.2.2.2.2 (fun w h => List.mem_cons_of_mem _ (inG_X12 w h)) F.2.2.2.1 K Z.1 0 rfl rfl 41 (by decide) (F.2.2.2.2 _ (List.mem_cons_of_mem _ wd1118)) (fun _ h => h) rfl hd kk
theorem ml23 {i : Int32} (F : CallFix p m c cc nL s args (cw :: Gw) own) (K : va_K D vwCl (tyL cy) s) (Z : ZG D (wM ad cy st) A s H locs) (hi : inB i 201 = true) (hd : decode cc pc = .ok (.iaload, 1)) (kk : W p l e R s m args below meth c H locs 0 0 Q (F0 m (pc + 1) ls (.int (st.2.1 22 i.toNatClampNeg) :: rest))) : W p l e R s m args below meth c H locs 0 0 Q (F0 m pc ls (.int i :: .ref (ad 23) :: rest)) :=
  va_iald F.1 F.2.1 K Z.1 23 1 rfl rfl (inB_vp hi) hd kk
theorem gmX12_73 (F : CallFix p m c cc nL s args (cw :: Gw) RX12) (K : va_K D vwCl (tyL cy) s) (Z : ZG D (wM ad cy st) A s H locs) (hd : decode cc pc = .ok (.getfield 73, 3)) (kk : W p l e R s m args below meth c H locs 0 0 Q (F0 m (pc + 3) ls (.ref (ad 20) :: rest))) : W p l e R s m args below meth c H locs 0 0 Q (F0 m pc ls (.ref (ad 0) :: rest)) :=
  va_get (D := D) (ci := 12) (C := RX12) (T := TX12) (N := 98) F.1 F.2.1 F.2.2.2.2 (fun w h => List.mem_cons_of_mem _ (inG_X12 w h)) F.2.2.2.1 K Z.1 0 rfl rfl 38 (by decide) (F.2.2.2.2 _ (List.mem_cons_of_mem _ wd1119)) (fun _ h => h) rfl hd kk
theorem ml20 {i : Int32} (F : CallFix p m c cc nL s args (cw :: Gw) own) (K : va_K D vwCl (tyL cy) s) (Z : ZG D (wM ad cy st) A s H locs) (hi : inB i 12060 = true) (hd : decode cc pc = .ok (.iaload, 1)) (kk : W p l e R s m args below meth c H locs 0 0 Q (F0 m (pc + 1) ls (.int (st.2.1 19 i.toNatClampNeg) :: rest))) : W p l e R s m args below meth c H locs 0 0 Q (F0 m pc ls (.int i :: .ref (ad 20) :: rest)) :=
  va_iald F.1 F.2.1 K Z.1 20 1 rfl rfl (inB_vp hi) hd kk
theorem ml33 {i : Int32} (F : CallFix p m c cc nL s args (cw :: Gw) own) (K : va_K D vwCl (tyL cy) s) (Z : ZG D (wM ad cy st) A s H locs) (hi : inB i 2100 = true) (hd : decode cc pc = .ok (.iaload, 1)) (kk : W p l e R s m args below meth c H locs 0 0 Q (F0 m (pc + 1) ls (.int (st.2.1 32 i.toNatClampNeg) :: rest))) : W p l e R s m args below meth c H locs 0 0 Q (F0 m pc ls (.int i :: .ref (ad 33) :: rest)) :=
  va_iald F.1 F.2.1 K Z.1 33 1 rfl rfl (inB_vp hi) hd kk
end
set_option maxRecDepth 100000 in
set_option maxHeartbeats 4000000 in
theorem b_X12_newWorld_45 {p : Program} {l : Launch} {e : Env} {s : State} {m : MethodId} {args : Array Value} {below : List Frame} {meth : Method} {c : Code} {D : va_G} {A : Nat → Prop} {ad : Nat → Nat} {cy : Nat → ClassId} {ee : EE} {n : Nat} {res : (Int32 × StT)} (F : CallFix p m c cX12_newWorld 5 s args (Cond.code yX12_newWorld cX12_newWorld 5 (some .int) :: Gw) yX12_newWorld.cls) (hr : meth.sig.returnType = (some .int)) (hk : meth.locks = false) (K : va_K D vwCl (tyL cy) s) (E : EV ee A s s.heap) (hA : ∀ q, s.heap.size ≤ q → A q) : ∀ (k : Nat) (st : StT) (x1 : Int32) (x2 : Int32) (x3 : Int32), f_X12_newWorld_45 n k st x1 x2 x3 = some res → ∀ (H : Heap) (locs : List Loc) (ls : Array Slot), ZG D (wM ad cy st) A s H locs → lv_has ls 5 [(0, .ref (ad 0)), (1, .int x1), (2, .int x2), (3, .int x3)] → W p l e { frames := 0, cells := 0, slots := 0, locals := 0 } s m args below meth c H locs 0 0 (MQ below (QC D (some (.int res.1)) (wM ad cy res.2) A) args s 0 0 A) (F0 m 45 ls []) := by
  have hx := F.1
  have hb := F.2.1
  intro k
  induction k with
  | zero =>
    intro st x1 x2 x3 hf
    exact absurd hf (by simp [f_X12_newWorld_45])
  | succ k ih =>
    intro st x1 x2 x3 hf H locs ls Z hl
    rw [f_X12_newWorld_45] at hf
    refine lv_iload_n hx hb dX12_newWorld_45 rfl (lv_at hl 3 rfl) ?_
    refine lv_aload_n hx hb dX12_newWorld_46 rfl (lv_at hl 0 rfl) ?_
    refine gmX12_82 F K Z dX12_newWorld_47 ?_
    refine lv_iload_n hx hb dX12_newWorld_50 rfl (lv_at hl 1 rfl) ?_
    obtain ⟨i51, hf⟩ := if_some hf
    refine ml23 F K Z i51 dX12_newWorld_51 ?_
    refine lv_icmp_ge (tgt := 107) hx hb dX12_newWorld_52 (by decide) (fun c52 => ?_) (fun c52 => ?_)
    · have hf := if_t c52 hf
      refine lv_iload_n hx hb dX12_newWorld_107 rfl (lv_at hl 2 rfl) ?_
      have hf := Option.some.inj hf
      subst hf
      exact ret_i F hr hk Z dX12_newWorld_108
    have hf := if_f c52 hf
    refine lv_aload_n hx hb dX12_newWorld_55 rfl (lv_at hl 0 rfl) ?_
    refine gmX12_73 F K Z dX12_newWorld_56 ?_
    refine lv_bipush (v := 60) hx hb dX12_newWorld_59 (by decide) ?_
    refine lv_iload_n hx hb dX12_newWorld_61 rfl (lv_at hl 1 rfl) ?_
    refine lv_imul hx hb dX12_newWorld_62 ?_
    refine lv_iload_n hx hb dX12_newWorld_63 rfl (lv_at hl 3 rfl) ?_
    refine lv_iadd hx hb dX12_newWorld_64 ?_
    obtain ⟨i65, hf⟩ := if_some hf
    refine ml20 F K Z i65 dX12_newWorld_65 ?_
    refine lv_istore (lv' := [(4, .int (st.2.1 19 ((((60 : Int32) * x1) + x3)).toNatClampNeg)), (0, .ref (ad 0)), (1, .int x1), (2, .int x2), (3, .int x3)]) hx hb dX12_newWorld_66 hl (by decide) rfl (fun ls hl => ?_)
    refine lv_aload_n hx hb dX12_newWorld_68 rfl (lv_at hl 1 rfl) ?_
    refine gmX12_115 F K Z dX12_newWorld_69 ?_
    refine lv_iload_n hx hb dX12_newWorld_72 rfl (lv_at hl 3 rfl) ?_
    refine lv_dup2_11 hx hb dX12_newWorld_73 rfl rfl ?_
    obtain ⟨i74, hf⟩ := if_some hf
    refine ml33 F K Z i74 dX12_newWorld_74 ?_
    refine lv_aload_n hx hb dX12_newWorld_75 rfl (lv_at hl 1 rfl) ?_
    refine gmX12_7 F K Z dX12_newWorld_76 ?_
    refine lv_iload hx hb dX12_newWorld_79 (lv_at hl 0 rfl) ?_
    obtain ⟨i81, hf⟩ := if_some hf
    refine ml1 F K Z i81 dX12_newWorld_81 ?_
    refine lv_iconst (v := 2) hx hb dX12_newWorld_82 (by decide) ?_
    refine lv_icmp_ne (tgt := 98) hx hb dX12_newWorld_83 (by decide) (fun c83 => ?_) (fun c83 => ?_)
    · have hf := if_f c83 hf
      refine lv_iconst (v := 0) hx hb dX12_newWorld_98 (by decide) ?_
      refine lv_ior hx hb dX12_newWorld_99 ?_
      obtain ⟨i100, hf⟩ := if_some hf
      refine ms33 F K Z i100 dX12_newWorld_100 (fun H locs Z => ?_)
      refine lv_iinc (v := (x3 + (1 : Int32))) (lv' := [(3, .int (x3 + (1 : Int32))), (4, .int (st.2.1 19 ((((60 : Int32) * x1) + x3)).toNatClampNeg)), (0, .ref (ad 0)), (1, .int x1), (2, .int x2)]) hx hb dX12_newWorld_101 hl (k := 4) rfl (congrArg (fun z => x3 + z) (by decide)) (by decide) rfl (fun ls hl => ?_)
      refine lv_goto (tgt := 45) hx hb dX12_newWorld_104 (by decide) ?_
      exact ih _ _ _ _ hf _ _ _ Z (lv_sub hl [2, 3, 4, 0] rfl)
    have hf := if_t c83 hf
    refine lv_iconst (v := 1) hx hb dX12_newWorld_86 (by decide) ?_
    refine lv_aload_n hx hb dX12_newWorld_87 rfl (lv_at hl 1 rfl) ?_
    refine gmX12_13 F K Z dX12_newWorld_88 ?_
    refine lv_iload hx hb dX12_newWorld_91 (lv_at hl 0 rfl) ?_
    obtain ⟨i93, hf⟩ := if_some hf
    refine ml2 F K Z i93 dX12_newWorld_93 ?_
    refine lv_ishl hx hb dX12_newWorld_94 ?_
    refine lv_goto (tgt := 99) hx hb dX12_newWorld_95 (by decide) ?_
    refine lv_ior hx hb dX12_newWorld_99 ?_
    obtain ⟨i100, hf⟩ := if_some hf
    refine ms33 F K Z i100 dX12_newWorld_100 (fun H locs Z => ?_)
    refine lv_iinc (v := (x3 + (1 : Int32))) (lv' := [(3, .int (x3 + (1 : Int32))), (4, .int (st.2.1 19 ((((60 : Int32) * x1) + x3)).toNatClampNeg)), (0, .ref (ad 0)), (1, .int x1), (2, .int x2)]) hx hb dX12_newWorld_101 hl (k := 4) rfl (congrArg (fun z => x3 + z) (by decide)) (by decide) rfl (fun ls hl => ?_)
    refine lv_goto (tgt := 45) hx hb dX12_newWorld_104 (by decide) ?_
    exact ih _ _ _ _ hf _ _ _ Z (lv_sub hl [2, 3, 4, 0] rfl)
set_option maxRecDepth 100000 in
set_option maxHeartbeats 4000000 in
theorem c_X12_newWorld {l : Launch} {D : va_G} {ad : Nat → Nat} {cy : Nat → ClassId} {ee : EE} {n : Nat} {st : StT} {x1 : Int32} {res : (Int32 × StT)} (hf : f_X12_newWorld n st x1 = some res) : CT l yX12_newWorld cX12_newWorld 5 (some .int) 0 0 D cy ee (wM ad cy st) (wM ad cy res.2) [.ref (ad 0), .int x1] (some (.int res.1)) := by
  refine CT.of (by decide +kernel) (Nat.le_of_ble_eq_true rfl) ?_
  intro p e s m args below meth c A F hr hk K E hA Z ls hl
  have hl : lv_has ls 5 [(0, .ref (ad 0)), (1, .int x1)] := hl
  have hx := F.1
  have hb := F.2.1
  unfold f_X12_newWorld at hf
  refine lv_aload_n hx hb dX12_newWorld_0 rfl (lv_at hl 0 rfl) ?_
  refine gmX12_322 F K Z dX12_newWorld_1 ?_
  refine lv_istore_n (lv' := [(2, .int (st.1 30)), (0, .ref (ad 0)), (1, .int x1)]) hx hb dX12_newWorld_4 rfl hl (by decide) rfl (fun ls hl => ?_)
  refine lv_aload_n hx hb dX12_newWorld_5 rfl (lv_at hl 1 rfl) ?_
  refine lv_dup hx hb dX12_newWorld_6 rfl ?_
  refine gmX12_322 F K Z dX12_newWorld_7 ?_
  refine lv_iconst (v := 1) hx hb dX12_newWorld_10 (by decide) ?_
  refine lv_iadd hx hb dX12_newWorld_11 ?_
  refine pmX12_322 F K Z dX12_newWorld_12 (fun H locs Z => ?_)
  refine lv_aload_n hx hb dX12_newWorld_15 rfl (lv_at hl 1 rfl) ?_
  refine gmX12_106 F K Z dX12_newWorld_16 ?_
  refine lv_iload_n hx hb dX12_newWorld_19 rfl (lv_at hl 0 rfl) ?_
  refine lv_iconst (v := -1) hx hb dX12_newWorld_20 (by decide) ?_
  obtain ⟨i21, hf⟩ := if_some hf
  refine ms30 F K Z i21 dX12_newWorld_21 (fun H locs Z => ?_)
  refine lv_aload_n hx hb dX12_newWorld_22 rfl (lv_at hl 1 rfl) ?_
  refine gmX12_109 F K Z dX12_newWorld_23 ?_
  refine lv_iload_n hx hb dX12_newWorld_26 rfl (lv_at hl 0 rfl) ?_
  refine lv_iconst (v := -1) hx hb dX12_newWorld_27 (by decide) ?_
  obtain ⟨i28, hf⟩ := if_some hf
  refine ms31 F K Z i28 dX12_newWorld_28 (fun H locs Z => ?_)
  refine lv_aload_n hx hb dX12_newWorld_29 rfl (lv_at hl 1 rfl) ?_
  refine gmX12_112 F K Z dX12_newWorld_30 ?_
  refine lv_iload_n hx hb dX12_newWorld_33 rfl (lv_at hl 0 rfl) ?_
  refine lv_iconst (v := -1) hx hb dX12_newWorld_34 (by decide) ?_
  obtain ⟨i35, hf⟩ := if_some hf
  refine ms32 F K Z i35 dX12_newWorld_35 (fun H locs Z => ?_)
  refine lv_aload_n hx hb dX12_newWorld_36 rfl (lv_at hl 1 rfl) ?_
  refine gmX12_115 F K Z dX12_newWorld_37 ?_
  refine lv_iload_n hx hb dX12_newWorld_40 rfl (lv_at hl 0 rfl) ?_
  refine lv_iconst (v := 0) hx hb dX12_newWorld_41 (by decide) ?_
  obtain ⟨i42, hf⟩ := if_some hf
  refine ms33 F K Z i42 dX12_newWorld_42 (fun H locs Z => ?_)
  refine lv_iconst (v := 0) hx hb dX12_newWorld_43 (by decide) ?_
  refine lv_istore_n (lv' := [(3, .int (0 : Int32)), (2, .int (st.1 30)), (0, .ref (ad 0)), (1, .int x1)]) hx hb dX12_newWorld_44 rfl hl (by decide) rfl (fun ls hl => ?_)
  exact b_X12_newWorld_45 F hr hk K E hA _ _ _ _ _ hf _ _ _ Z (lv_sub hl [2, 3, 1, 0] rfl)
def f_X12_addChild (n : Nat) (st : StT) (x1 : Int32) (x2 : Int32) : Option StT := if inB x1 2100 = true then (if 0 ≤ (st.2.1 29 (x1).toNatClampNeg) then (if inB x1 2100 = true then (if inB (st.2.1 30 (x1).toNatClampNeg) 2100 = true then (if inB x1 2100 = true then (some (uA (uA st 31 (st.2.1 30 (x1).toNatClampNeg) x2) 30 x1 x2)) else none) else none) else none) else (if inB x1 2100 = true then (if inB x1 2100 = true then (some (uA (uA st 29 x1 x2) 30 x1 x2)) else none) else none)) else none
section
variable {p : Program} {l : Launch} {e : Env} {R : Room} {s : State} {m : MethodId} {args : Array Value} {below : List Frame} {meth : Method} {c : Code} {H : Heap} {locs : List Loc} {Q : State → Prop}
variable {cc : ByteArray} {nL pc : Nat} {ls : Array Slot} {rest : List Value} {D : va_G} {A : Nat → Prop} {cw : Cond} {ad : Nat → Nat} {cy : Nat → ClassId} {ee : EE} {st : StT} {own : String}
theorem ml30 {i : Int32} (F : CallFix p m c cc nL s args (cw :: Gw) own) (K : va_K D vwCl (tyL cy) s) (Z : ZG D (wM ad cy st) A s H locs) (hi : inB i 2100 = true) (hd : decode cc pc = .ok (.iaload, 1)) (kk : W p l e R s m args below meth c H locs 0 0 Q (F0 m (pc + 1) ls (.int (st.2.1 29 i.toNatClampNeg) :: rest))) : W p l e R s m args below meth c H locs 0 0 Q (F0 m pc ls (.int i :: .ref (ad 30) :: rest)) :=
  va_iald F.1 F.2.1 K Z.1 30 1 rfl rfl (inB_vp hi) hd kk
theorem ml31 {i : Int32} (F : CallFix p m c cc nL s args (cw :: Gw) own) (K : va_K D vwCl (tyL cy) s) (Z : ZG D (wM ad cy st) A s H locs) (hi : inB i 2100 = true) (hd : decode cc pc = .ok (.iaload, 1)) (kk : W p l e R s m args below meth c H locs 0 0 Q (F0 m (pc + 1) ls (.int (st.2.1 30 i.toNatClampNeg) :: rest))) : W p l e R s m args below meth c H locs 0 0 Q (F0 m pc ls (.int i :: .ref (ad 31) :: rest)) :=
  va_iald F.1 F.2.1 K Z.1 31 1 rfl rfl (inB_vp hi) hd kk
end
set_option maxRecDepth 100000 in
set_option maxHeartbeats 4000000 in
theorem c_X12_addChild {l : Launch} {D : va_G} {ad : Nat → Nat} {cy : Nat → ClassId} {ee : EE} {n : Nat} {st : StT} {x1 : Int32} {x2 : Int32} {res : StT} (hf : f_X12_addChild n st x1 x2 = some res) : CT l yX12_addChild cX12_addChild 3 none 0 0 D cy ee (wM ad cy st) (wM ad cy res) [.ref (ad 0), .int x1, .int x2] (none) := by
  refine CT.of (by decide +kernel) (Nat.le_of_ble_eq_true rfl) ?_
  intro p e s m args below meth c A F hr hk K E hA Z ls hl
  have hl : lv_has ls 3 [(0, .ref (ad 0)), (1, .int x1), (2, .int x2)] := hl
  have hx := F.1
  have hb := F.2.1
  unfold f_X12_addChild at hf
  refine lv_aload_n hx hb dX12_addChild_0 rfl (lv_at hl 0 rfl) ?_
  refine gmX12_106 F K Z dX12_addChild_1 ?_
  refine lv_iload_n hx hb dX12_addChild_4 rfl (lv_at hl 1 rfl) ?_
  obtain ⟨i5, hf⟩ := if_some hf
  refine ml30 F K Z i5 dX12_addChild_5 ?_
  refine lv_if_ge (tgt := 19) hx hb dX12_addChild_6 (by decide) (fun c6 => ?_) (fun c6 => ?_)
  · have hf := if_t c6 hf
    refine lv_aload_n hx hb dX12_addChild_19 rfl (lv_at hl 0 rfl) ?_
    refine gmX12_112 F K Z dX12_addChild_20 ?_
    refine lv_aload_n hx hb dX12_addChild_23 rfl (lv_at hl 0 rfl) ?_
    refine gmX12_109 F K Z dX12_addChild_24 ?_
    refine lv_iload_n hx hb dX12_addChild_27 rfl (lv_at hl 1 rfl) ?_
    obtain ⟨i28, hf⟩ := if_some hf
    refine ml31 F K Z i28 dX12_addChild_28 ?_
    refine lv_iload_n hx hb dX12_addChild_29 rfl (lv_at hl 2 rfl) ?_
    obtain ⟨i30, hf⟩ := if_some hf
    refine ms32 F K Z i30 dX12_addChild_30 (fun H locs Z => ?_)
    refine lv_aload_n hx hb dX12_addChild_31 rfl (lv_at hl 0 rfl) ?_
    refine gmX12_109 F K Z dX12_addChild_32 ?_
    refine lv_iload_n hx hb dX12_addChild_35 rfl (lv_at hl 1 rfl) ?_
    refine lv_iload_n hx hb dX12_addChild_36 rfl (lv_at hl 2 rfl) ?_
    obtain ⟨i37, hf⟩ := if_some hf
    refine ms31 F K Z i37 dX12_addChild_37 (fun H locs Z => ?_)
    have hf := Option.some.inj hf
    subst hf
    exact ret_v F hr hk Z dX12_addChild_38
  have hf := if_f c6 hf
  refine lv_aload_n hx hb dX12_addChild_9 rfl (lv_at hl 0 rfl) ?_
  refine gmX12_106 F K Z dX12_addChild_10 ?_
  refine lv_iload_n hx hb dX12_addChild_13 rfl (lv_at hl 1 rfl) ?_
  refine lv_iload_n hx hb dX12_addChild_14 rfl (lv_at hl 2 rfl) ?_
  obtain ⟨i15, hf⟩ := if_some hf
  refine ms30 F K Z i15 dX12_addChild_15 (fun H locs Z => ?_)
  refine lv_goto (tgt := 31) hx hb dX12_addChild_16 (by decide) ?_
  refine lv_aload_n hx hb dX12_addChild_31 rfl (lv_at hl 0 rfl) ?_
  refine gmX12_109 F K Z dX12_addChild_32 ?_
  refine lv_iload_n hx hb dX12_addChild_35 rfl (lv_at hl 1 rfl) ?_
  refine lv_iload_n hx hb dX12_addChild_36 rfl (lv_at hl 2 rfl) ?_
  obtain ⟨i37, hf⟩ := if_some hf
  refine ms31 F K Z i37 dX12_addChild_37 (fun H locs Z => ?_)
  have hf := Option.some.inj hf
  subst hf
  exact ret_v F hr hk Z dX12_addChild_38
def f_X12_findLeft_33 (n : Nat) (st : StT) (x1 : Int32) (x3 : Int32) : Option (Int32 × StT) := if inB x1 201 = true then (if (st.2.1 22 (x1).toNatClampNeg) ≤ x3 then (some ((-1 : Int32), st)) else (some (x3, st))) else none
def f_X12_findLeft_2 (n : Nat) : Nat → StT → Int32 → Int32 → Int32 → Option (Int32 × StT)
  | 0, _, _, _, _ => none
  | k + 1, st, x1, x2, x3 => if inB x1 201 = true then (if (st.2.1 22 (x1).toNatClampNeg) ≤ x3 then (f_X12_findLeft_33 n st x1 x3) else (if inB (((60 : Int32) * x1) + x3) 12060 = true then (if (st.2.1 19 ((((60 : Int32) * x1) + x3)).toNatClampNeg) = x2 then (f_X12_findLeft_33 n st x1 x3) else (f_X12_findLeft_2 n k st x1 x2 (x3 + (1 : Int32)))) else none)) else none
def f_X12_findLeft (n : Nat) (st : StT) (x1 : Int32) (x2 : Int32) : Option (Int32 × StT) := f_X12_findLeft_2 n n st x1 x2 (0 : Int32)
set_option maxRecDepth 100000 in
set_option maxHeartbeats 4000000 in
theorem b_X12_findLeft_33 {p : Program} {l : Launch} {e : Env} {s : State} {m : MethodId} {args : Array Value} {below : List Frame} {meth : Method} {c : Code} {D : va_G} {A : Nat → Prop} {ad : Nat → Nat} {cy : Nat → ClassId} {ee : EE} {n : Nat} {res : (Int32 × StT)} (F : CallFix p m c cX12_findLeft 4 s args (Cond.code yX12_findLeft cX12_findLeft 4 (some .int) :: Gw) yX12_findLeft.cls) (hr : meth.sig.returnType = (some .int)) (hk : meth.locks = false) (K : va_K D vwCl (tyL cy) s) (E : EV ee A s s.heap) (hA : ∀ q, s.heap.size ≤ q → A q) : ∀ (st : StT) (x1 : Int32) (x3 : Int32), f_X12_findLeft_33 n st x1 x3 = some res → ∀ (H : Heap) (locs : List Loc) (ls : Array Slot), ZG D (wM ad cy st) A s H locs → lv_has ls 4 [(0, .ref (ad 0)), (1, .int x1), (3, .int x3)] → W p l e { frames := 0, cells := 0, slots := 0, locals := 0 } s m args below meth c H locs 0 0 (MQ below (QC D (some (.int res.1)) (wM ad cy res.2) A) args s 0 0 A) (F0 m 33 ls []) := by
  have hx := F.1
  have hb := F.2.1
  intro st x1 x3 hf H locs ls Z hl
  unfold f_X12_findLeft_33 at hf
  refine lv_iload_n hx hb dX12_findLeft_33 rfl (lv_at hl 2 rfl) ?_
  refine lv_aload_n hx hb dX12_findLeft_34 rfl (lv_at hl 0 rfl) ?_
  refine gmX12_82 F K Z dX12_findLeft_35 ?_
  refine lv_iload_n hx hb dX12_findLeft_38 rfl (lv_at hl 1 rfl) ?_
  obtain ⟨i39, hf⟩ := if_some hf
  refine ml23 F K Z i39 dX12_findLeft_39 ?_
  refine lv_icmp_ge (tgt := 47) hx hb dX12_findLeft_40 (by decide) (fun c40 => ?_) (fun c40 => ?_)
  · have hf := if_t c40 hf
    refine lv_iconst (v := -1) hx hb dX12_findLeft_47 (by decide) ?_
    have hf := Option.some.inj hf
    subst hf
    exact ret_i F hr hk Z dX12_findLeft_48
  have hf := if_f c40 hf
  refine lv_iload_n hx hb dX12_findLeft_43 rfl (lv_at hl 2 rfl) ?_
  refine lv_goto (tgt := 48) hx hb dX12_findLeft_44 (by decide) ?_
  have hf := Option.some.inj hf
  subst hf
  exact ret_i F hr hk Z dX12_findLeft_48
set_option maxRecDepth 100000 in
set_option maxHeartbeats 4000000 in
theorem b_X12_findLeft_2 {p : Program} {l : Launch} {e : Env} {s : State} {m : MethodId} {args : Array Value} {below : List Frame} {meth : Method} {c : Code} {D : va_G} {A : Nat → Prop} {ad : Nat → Nat} {cy : Nat → ClassId} {ee : EE} {n : Nat} {res : (Int32 × StT)} (F : CallFix p m c cX12_findLeft 4 s args (Cond.code yX12_findLeft cX12_findLeft 4 (some .int) :: Gw) yX12_findLeft.cls) (hr : meth.sig.returnType = (some .int)) (hk : meth.locks = false) (K : va_K D vwCl (tyL cy) s) (E : EV ee A s s.heap) (hA : ∀ q, s.heap.size ≤ q → A q) : ∀ (k : Nat) (st : StT) (x1 : Int32) (x2 : Int32) (x3 : Int32), f_X12_findLeft_2 n k st x1 x2 x3 = some res → ∀ (H : Heap) (locs : List Loc) (ls : Array Slot), ZG D (wM ad cy st) A s H locs → lv_has ls 4 [(0, .ref (ad 0)), (1, .int x1), (2, .int x2), (3, .int x3)] → W p l e { frames := 0, cells := 0, slots := 0, locals := 0 } s m args below meth c H locs 0 0 (MQ below (QC D (some (.int res.1)) (wM ad cy res.2) A) args s 0 0 A) (F0 m 2 ls []) := by
  have hx := F.1
  have hb := F.2.1
  intro k
  induction k with
  | zero =>
    intro st x1 x2 x3 hf
    exact absurd hf (by simp [f_X12_findLeft_2])
  | succ k ih =>
    intro st x1 x2 x3 hf H locs ls Z hl
    rw [f_X12_findLeft_2] at hf
    refine lv_iload_n hx hb dX12_findLeft_2 rfl (lv_at hl 3 rfl) ?_
    refine lv_aload_n hx hb dX12_findLeft_3 rfl (lv_at hl 0 rfl) ?_
    refine gmX12_82 F K Z dX12_findLeft_4 ?_
    refine lv_iload_n hx hb dX12_findLeft_7 rfl (lv_at hl 1 rfl) ?_
    obtain ⟨i8, hf⟩ := if_some hf
    refine ml23 F K Z i8 dX12_findLeft_8 ?_
    refine lv_icmp_ge (tgt := 33) hx hb dX12_findLeft_9 (by decide) (fun c9 => ?_) (fun c9 => ?_)
    · have hf := if_t c9 hf
      exact b_X12_findLeft_33 F hr hk K E hA _ _ _ hf _ _ _ Z (lv_sub hl [0, 1, 3] rfl)
    have hf := if_f c9 hf
    refine lv_aload_n hx hb dX12_findLeft_12 rfl (lv_at hl 0 rfl) ?_
    refine gmX12_73 F K Z dX12_findLeft_13 ?_
    refine lv_bipush (v := 60) hx hb dX12_findLeft_16 (by decide) ?_
    refine lv_iload_n hx hb dX12_findLeft_18 rfl (lv_at hl 1 rfl) ?_
    refine lv_imul hx hb dX12_findLeft_19 ?_
    refine lv_iload_n hx hb dX12_findLeft_20 rfl (lv_at hl 3 rfl) ?_
    refine lv_iadd hx hb dX12_findLeft_21 ?_
    obtain ⟨i22, hf⟩ := if_some hf
    refine ml20 F K Z i22 dX12_findLeft_22 ?_
    refine lv_iload_n hx hb dX12_findLeft_23 rfl (lv_at hl 2 rfl) ?_
    refine lv_icmp_eq (tgt := 33) hx hb dX12_findLeft_24 (by decide) (fun c24 => ?_) (fun c24 => ?_)
    · have hf := if_t c24 hf
      exact b_X12_findLeft_33 F hr hk K E hA _ _ _ hf _ _ _ Z (lv_sub hl [0, 1, 3] rfl)
    have hf := if_f c24 hf
    refine lv_iinc (v := (x3 + (1 : Int32))) (lv' := [(3, .int (x3 + (1 : Int32))), (0, .ref (ad 0)), (1, .int x1), (2, .int x2)]) hx hb dX12_findLeft_27 hl (k := 3) rfl (congrArg (fun z => x3 + z) (by decide)) (by decide) rfl (fun ls hl => ?_)
    refine lv_goto (tgt := 2) hx hb dX12_findLeft_30 (by decide) ?_
    exact ih _ _ _ _ hf _ _ _ Z (lv_sub hl [1, 2, 3, 0] rfl)
set_option maxRecDepth 100000 in
set_option maxHeartbeats 4000000 in
theorem c_X12_findLeft {l : Launch} {D : va_G} {ad : Nat → Nat} {cy : Nat → ClassId} {ee : EE} {n : Nat} {st : StT} {x1 : Int32} {x2 : Int32} {res : (Int32 × StT)} (hf : f_X12_findLeft n st x1 x2 = some res) : CT l yX12_findLeft cX12_findLeft 4 (some .int) 0 0 D cy ee (wM ad cy st) (wM ad cy res.2) [.ref (ad 0), .int x1, .int x2] (some (.int res.1)) := by
  refine CT.of (by decide +kernel) (Nat.le_of_ble_eq_true rfl) ?_
  intro p e s m args below meth c A F hr hk K E hA Z ls hl
  have hl : lv_has ls 4 [(0, .ref (ad 0)), (1, .int x1), (2, .int x2)] := hl
  have hx := F.1
  have hb := F.2.1
  unfold f_X12_findLeft at hf
  refine lv_iconst (v := 0) hx hb dX12_findLeft_0 (by decide) ?_
  refine lv_istore_n (lv' := [(3, .int (0 : Int32)), (0, .ref (ad 0)), (1, .int x1), (2, .int x2)]) hx hb dX12_findLeft_1 rfl hl (by decide) rfl (fun ls hl => ?_)
  exact b_X12_findLeft_2 F hr hk K E hA _ _ _ _ _ hf _ _ _ Z (lv_sub hl [1, 2, 3, 0] rfl)
def f_X12_comes (n : Nat) (st : StT) (x1 : Int32) (x2 : Int32) (x3 : Int32) (x4 : Int32) : Option (Int32 × StT) := if 0 ≤ x2 then ((f_X12_findLeft n st x1 x2).bind fun q15 => (if q15.1 < 0 then (if inB x1 201 = true then (if (q15.2.2.1 22 (x1).toNatClampNeg) = (60 : Int32) then (some ((0 : Int32), (uF q15.2 24 (-7 : Int32)))) else (if inB x1 201 = true then (if inB (((60 : Int32) * x1) + (q15.2.2.1 22 (x1).toNatClampNeg)) 12060 = true then (if inB (((60 : Int32) * x1) + (q15.2.2.1 22 (x1).toNatClampNeg)) 12060 = true then (if inB (((60 : Int32) * x1) + (q15.2.2.1 22 (x1).toNatClampNeg)) 12060 = true then (if inB x1 201 = true then (if inB x1 201 = true then (if inB x1 201 = true then (if ((uA (uA (uA (uA q15.2 19 (((60 : Int32) * x1) + (q15.2.2.1 22 (x1).toNatClampNeg)) x2) 20 (((60 : Int32) * x1) + (q15.2.2.1 22 (x1).toNatClampNeg)) x3) 21 (((60 : Int32) * x1) + (q15.2.2.1 22 (x1).toNatClampNeg)) x4) 22 x1 (((uA (uA (uA q15.2 19 (((60 : Int32) * x1) + (q15.2.2.1 22 (x1).toNatClampNeg)) x2) 20 (((60 : Int32) * x1) + (q15.2.2.1 22 (x1).toNatClampNeg)) x3) 21 (((60 : Int32) * x1) + (q15.2.2.1 22 (x1).toNatClampNeg)) x4).2.1 22 (x1).toNatClampNeg) + (1 : Int32))).2.1 22 (x1).toNatClampNeg) ≤ ((uA (uA (uA (uA q15.2 19 (((60 : Int32) * x1) + (q15.2.2.1 22 (x1).toNatClampNeg)) x2) 20 (((60 : Int32) * x1) + (q15.2.2.1 22 (x1).toNatClampNeg)) x3) 21 (((60 : Int32) * x1) + (q15.2.2.1 22 (x1).toNatClampNeg)) x4) 22 x1 (((uA (uA (uA q15.2 19 (((60 : Int32) * x1) + (q15.2.2.1 22 (x1).toNatClampNeg)) x2) 20 (((60 : Int32) * x1) + (q15.2.2.1 22 (x1).toNatClampNeg)) x3) 21 (((60 : Int32) * x1) + (q15.2.2.1 22 (x1).toNatClampNeg)) x4).2.1 22 (x1).toNatClampNeg) + (1 : Int32))).1 22) then (some ((1 : Int32), (uF (uA (uA (uA (uA q15.2 19 (((60 : Int32) * x1) + (q15.2.2.1 22 (x1).toNatClampNeg)) x2) 20 (((60 : Int32) * x1) + (q15.2.2.1 22 (x1).toNatClampNeg)) x3) 21 (((60 : Int32) * x1) + (q15.2.2.1 22 (x1).toNatClampNeg)) x4) 22 x1 (((uA (uA (uA q15.2 19 (((60 : Int32) * x1) + (q15.2.2.1 22 (x1).toNatClampNeg)) x2) 20 (((60 : Int32) * x1) + (q15.2.2.1 22 (x1).toNatClampNeg)) x3) 21 (((60 : Int32) * x1) + (q15.2.2.1 22 (x1).toNatClampNeg)) x4).2.1 22 (x1).toNatClampNeg) + (1 : Int32))) 22 ((uA (uA (uA (uA q15.2 19 (((60 : Int32) * x1) + (q15.2.2.1 22 (x1).toNatClampNeg)) x2) 20 (((60 : Int32) * x1) + (q15.2.2.1 22 (x1).toNatClampNeg)) x3) 21 (((60 : Int32) * x1) + (q15.2.2.1 22 (x1).toNatClampNeg)) x4) 22 x1 (((uA (uA (uA q15.2 19 (((60 : Int32) * x1) + (q15.2.2.1 22 (x1).toNatClampNeg)) x2) 20 (((60 : Int32) * x1) + (q15.2.2.1 22 (x1).toNatClampNeg)) x3) 21 (((60 : Int32) * x1) + (q15.2.2.1 22 (x1).toNatClampNeg)) x4).2.1 22 (x1).toNatClampNeg) + (1 : Int32))).1 22)))) else (if inB x1 201 = true then (some ((1 : Int32), (uF (uA (uA (uA (uA q15.2 19 (((60 : Int32) * x1) + (q15.2.2.1 22 (x1).toNatClampNeg)) x2) 20 (((60 : Int32) * x1) + (q15.2.2.1 22 (x1).toNatClampNeg)) x3) 21 (((60 : Int32) * x1) + (q15.2.2.1 22 (x1).toNatClampNeg)) x4) 22 x1 (((uA (uA (uA q15.2 19 (((60 : Int32) * x1) + (q15.2.2.1 22 (x1).toNatClampNeg)) x2) 20 (((60 : Int32) * x1) + (q15.2.2.1 22 (x1).toNatClampNeg)) x3) 21 (((60 : Int32) * x1) + (q15.2.2.1 22 (x1).toNatClampNeg)) x4).2.1 22 (x1).toNatClampNeg) + (1 : Int32))) 22 ((uA (uA (uA (uA q15.2 19 (((60 : Int32) * x1) + (q15.2.2.1 22 (x1).toNatClampNeg)) x2) 20 (((60 : Int32) * x1) + (q15.2.2.1 22 (x1).toNatClampNeg)) x3) 21 (((60 : Int32) * x1) + (q15.2.2.1 22 (x1).toNatClampNeg)) x4) 22 x1 (((uA (uA (uA q15.2 19 (((60 : Int32) * x1) + (q15.2.2.1 22 (x1).toNatClampNeg)) x2) 20 (((60 : Int32) * x1) + (q15.2.2.1 22 (x1).toNatClampNeg)) x3) 21 (((60 : Int32) * x1) + (q15.2.2.1 22 (x1).toNatClampNeg)) x4).2.1 22 (x1).toNatClampNeg) + (1 : Int32))).2.1 22 (x1).toNatClampNeg)))) else none)) else none) else none) else none) else none) else none) else none) else none)) else none) else (some ((1 : Int32), q15.2)))) else (some ((0 : Int32), (uF st 24 (-7 : Int32))))
theorem wd1120 : Cond.fieldLink RX12 76 "WorldProverModel" "leftTerm" "[I" ∈ Gw := gT6 (List.mem_of_getElem? (i := 97) rfl) rfl
theorem wd1121 : Cond.fieldLink RX12 79 "WorldProverModel" "leftMade" "[I" ∈ Gw := gT6 (List.mem_of_getElem? (i := 98) rfl) rfl
theorem wd1122 : Cond.fieldLink RX12 332 "WorldProverModel" "mostLeft" "I" ∈ Gw := gT6 (List.mem_of_getElem? (i := 109) rfl) rfl
theorem wd1123 : Cond.fieldLink RX12 325 "WorldProverModel" "ended" "I" ∈ Gw := gT6 (List.mem_of_getElem? (i := 111) rfl) rfl
theorem wd1124 : Cond.methodLink RX12 328 yX12_findLeft ∈ Gw := gT8 (List.mem_of_getElem? (i := 101) rfl) rfl
theorem wd1125 : Cond.code yX12_findLeft prog_14_method_27_code 4 (some .int) ∈ Gw := gT8 (List.mem_of_getElem? (i := 104) rfl) rfl
theorem wd1126 : Cond.instanceMethod yX12_findLeft ∈ Gw := gT8 (List.mem_of_getElem? (i := 103) rfl) rfl
theorem wd1127 : Cond.selects RX12 yX12_findLeft yX12_findLeft ∈ Gw := gP7 (q := (yX12_findLeft, 98)) (List.mem_of_getElem? (i := 10) rfl)
section
variable {p : Program} {l : Launch} {e : Env} {R : Room} {s : State} {m : MethodId} {args : Array Value} {below : List Frame} {meth : Method} {c : Code} {H : Heap} {locs : List Loc} {Q : State → Prop}
variable {cc : ByteArray} {nL pc : Nat} {ls : Array Slot} {rest : List Value} {D : va_G} {A : Nat → Prop} {cw : Cond} {ad : Nat → Nat} {cy : Nat → ClassId} {ee : EE} {st : StT} {own : String}
theorem ms20 {i : Int32} {v : Int32} (F : CallFix p m c cc nL s args (cw :: Gw) own) (K : va_K D vwCl (tyL cy) s) (Z : ZG D (wM ad cy st) A s H locs) (hi : inB i 12060 = true) (hd : decode cc pc = .ok (.iastore, 1)) (kk : ∀ (H1 : Heap) (locs1 : List Loc), ZG D (wM ad cy (uA st 19 i v)) A s H1 locs1 → W p l e R s m args below meth c H1 locs1 0 0 Q (F0 m (pc + 1) ls rest)) : W p l e R s m args below meth c H locs 0 0 Q (F0 m pc ls (.int v :: .int i :: .ref (ad 20) :: rest)) :=
  va_iast F.1 F.2.1 K Z.1 Z.2.1 Z.2.2 20 1 rfl rfl (inB_vp hi) hd (fun H1 locs1 hP hD hS => kk H1 locs1 ⟨hP, hD, hS⟩)
theorem gmX12_76 (F : CallFix p m c cc nL s args (cw :: Gw) RX12) (K : va_K D vwCl (tyL cy) s) (Z : ZG D (wM ad cy st) A s H locs) (hd : decode cc pc = .ok (.getfield 76, 3)) (kk : W p l e R s m args below meth c H locs 0 0 Q (F0 m (pc + 3) ls (.ref (ad 21) :: rest))) : W p l e R s m args below meth c H locs 0 0 Q (F0 m pc ls (.ref (ad 0) :: rest)) :=
  va_get (D := D) (ci := 12) (C := RX12) (T := TX12) (N := 98) F.1 F.2.1 F.2.2.2.2 (fun w h => List.mem_cons_of_mem _ (inG_X12 w h)) F.2.2.2.1 K Z.1 0 rfl rfl 39 (by decide) (F.2.2.2.2 _ (List.mem_cons_of_mem _ wd1120)) (fun _ h => h) rfl hd kk
theorem ms21 {i : Int32} {v : Int32} (F : CallFix p m c cc nL s args (cw :: Gw) own) (K : va_K D vwCl (tyL cy) s) (Z : ZG D (wM ad cy st) A s H locs) (hi : inB i 12060 = true) (hd : decode cc pc = .ok (.iastore, 1)) (kk : ∀ (H1 : Heap) (locs1 : List Loc), ZG D (wM ad cy (uA st 20 i v)) A s H1 locs1 → W p l e R s m args below meth c H1 locs1 0 0 Q (F0 m (pc + 1) ls rest)) : W p l e R s m args below meth c H locs 0 0 Q (F0 m pc ls (.int v :: .int i :: .ref (ad 21) :: rest)) :=
  va_iast F.1 F.2.1 K Z.1 Z.2.1 Z.2.2 21 1 rfl rfl (inB_vp hi) hd (fun H1 locs1 hP hD hS => kk H1 locs1 ⟨hP, hD, hS⟩)
theorem gmX12_79 (F : CallFix p m c cc nL s args (cw :: Gw) RX12) (K : va_K D vwCl (tyL cy) s) (Z : ZG D (wM ad cy st) A s H locs) (hd : decode cc pc = .ok (.getfield 79, 3)) (kk : W p l e R s m args below meth c H locs 0 0 Q (F0 m (pc + 3) ls (.ref (ad 22) :: rest))) : W p l e R s m args below meth c H locs 0 0 Q (F0 m pc ls (.ref (ad 0) :: rest)) :=
  va_get (D := D) (ci := 12) (C := RX12) (T := TX12) (N := 98) F.1 F.2.1 F.2.2.2.2 (fun w h => List.mem_cons_of_mem _ (inG_X12 w h)) F.2.2.2.1 K Z.1 0 rfl rfl 40 (by decide) (F.2.2.2.2 _ (List.mem_cons_of_mem _ wd1121)) (fun _ h => h) rfl hd kk
theorem ms22 {i : Int32} {v : Int32} (F : CallFix p m c cc nL s args (cw :: Gw) own) (K : va_K D vwCl (tyL cy) s) (Z : ZG D (wM ad cy st) A s H locs) (hi : inB i 12060 = true) (hd : decode cc pc = .ok (.iastore, 1)) (kk : ∀ (H1 : Heap) (locs1 : List Loc), ZG D (wM ad cy (uA st 21 i v)) A s H1 locs1 → W p l e R s m args below meth c H1 locs1 0 0 Q (F0 m (pc + 1) ls rest)) : W p l e R s m args below meth c H locs 0 0 Q (F0 m pc ls (.int v :: .int i :: .ref (ad 22) :: rest)) :=
  va_iast F.1 F.2.1 K Z.1 Z.2.1 Z.2.2 22 1 rfl rfl (inB_vp hi) hd (fun H1 locs1 hP hD hS => kk H1 locs1 ⟨hP, hD, hS⟩)
theorem ms23 {i : Int32} {v : Int32} (F : CallFix p m c cc nL s args (cw :: Gw) own) (K : va_K D vwCl (tyL cy) s) (Z : ZG D (wM ad cy st) A s H locs) (hi : inB i 201 = true) (hd : decode cc pc = .ok (.iastore, 1)) (kk : ∀ (H1 : Heap) (locs1 : List Loc), ZG D (wM ad cy (uA st 22 i v)) A s H1 locs1 → W p l e R s m args below meth c H1 locs1 0 0 Q (F0 m (pc + 1) ls rest)) : W p l e R s m args below meth c H locs 0 0 Q (F0 m pc ls (.int v :: .int i :: .ref (ad 23) :: rest)) :=
  va_iast F.1 F.2.1 K Z.1 Z.2.1 Z.2.2 23 1 rfl rfl (inB_vp hi) hd (fun H1 locs1 hP hD hS => kk H1 locs1 ⟨hP, hD, hS⟩)
theorem gmX12_332 (F : CallFix p m c cc nL s args (cw :: Gw) RX12) (K : va_K D vwCl (tyL cy) s) (Z : ZG D (wM ad cy st) A s H locs) (hd : decode cc pc = .ok (.getfield 332, 3)) (kk : W p l e R s m args below meth c H locs 0 0 Q (F0 m (pc + 3) ls (.int (st.1 22) :: rest))) : W p l e R s m args below meth c H locs 0 0 Q (F0 m pc ls (.ref (ad 0) :: rest)) :=
  va_get (D := D) (ci := 12) (C := RX12) (T := TX12) (N := 98) F.1 F.2.1 F.2.2.2.2 (fun w h => List.mem_cons_of_mem _ (inG_X12 w h)) F.2.2.2.1 K Z.1 0 rfl rfl 51 (by decide) (F.2.2.2.2 _ (List.mem_cons_of_mem _ wd1122)) (fun _ h => h) rfl hd kk
theorem pmX12_332 {v : Int32} (F : CallFix p m c cc nL s args (cw :: Gw) RX12) (K : va_K D vwCl (tyL cy) s) (Z : ZG D (wM ad cy st) A s H locs) (hd : decode cc pc = .ok (.putfield 332, 3)) (kk : ∀ (H1 : Heap) (locs1 : List Loc), ZG D (wM ad cy (uF st 22 v)) A s H1 locs1 → W p l e R s m args below meth c H1 locs1 0 0 Q (F0 m (pc + 3) ls rest)) : W p l e R s m args below meth c H locs 0 0 Q (F0 m pc ls (.int v :: .ref (ad 0) :: rest)) :=
  va_put (D := D) (ci := 12) (v := .int v) (ty := .int) (C := RX12) (T := TX12) (N := 98) F.1 F.2.1 F.2.2.2.2 (fun w h => List.mem_cons_of_mem _ (inG_X12 w h)) tyX12 tyX12_ok nmX12 F.2.2.2.1 K Z.1 Z.2.1 Z.2.2 0 rfl rfl 51 (by decide) (F.2.2.2.2 _ (List.mem_cons_of_mem _ wd1122)) (fun _ h => h) rfl (by decide +kernel) rfl rfl (Nat.le_of_ble_eq_true rfl) hd (fun H1 locs1 hP hD hS => kk H1 locs1 ⟨hP, hD, hS⟩)
theorem pmX12_325 {v : Int32} (F : CallFix p m c cc nL s args (cw :: Gw) RX12) (K : va_K D vwCl (tyL cy) s) (Z : ZG D (wM ad cy st) A s H locs) (hd : decode cc pc = .ok (.putfield 325, 3)) (kk : ∀ (H1 : Heap) (locs1 : List Loc), ZG D (wM ad cy (uF st 24 v)) A s H1 locs1 → W p l e R s m args below meth c H1 locs1 0 0 Q (F0 m (pc + 3) ls rest)) : W p l e R s m args below meth c H locs 0 0 Q (F0 m pc ls (.int v :: .ref (ad 0) :: rest)) :=
  va_put (D := D) (ci := 12) (v := .int v) (ty := .int) (C := RX12) (T := TX12) (N := 98) F.1 F.2.1 F.2.2.2.2 (fun w h => List.mem_cons_of_mem _ (inG_X12 w h)) tyX12 tyX12_ok nmX12 F.2.2.2.1 K Z.1 Z.2.1 Z.2.2 0 rfl rfl 53 (by decide) (F.2.2.2.2 _ (List.mem_cons_of_mem _ wd1123)) (fun _ h => h) rfl (by decide +kernel) rfl rfl (Nat.le_of_ble_eq_true rfl) hd (fun H1 locs1 hP hD hS => kk H1 locs1 ⟨hP, hD, hS⟩)
theorem krX12_328_X12_findLeft {n : Nat} {a0 : Int32} {a1 : Int32} {q : (Int32 × StT)} (F : CallFix p m c cc nL s args (cw :: Gw) RX12) (K : va_K D vwCl (tyL cy) s) (E : EV ee A s s.heap) (hA : ∀ q, s.heap.size ≤ q → A q) (Z : ZG D (wM ad cy st) A s H locs) (hf : f_X12_findLeft n st a0 a1 = some q) (hR : 1 ≤ R.frames ∧ 23 ≤ R.locals) (hl : ls.size = nL) (hst : (rest.map fun v => v.category).sum ≤ 8) (hd : decode cc pc = .ok (.invokevirtual 328, 3)) (kk : ∀ (H1 : Heap) (locs1 : List Loc), ZG D (wM ad cy q.2) A s H1 locs1 → W p l e R s m args below meth c H1 locs1 0 0 Q (F0 m (pc + 3) ls (.int q.1 :: rest))) : W p l e R s m args below meth c H locs 0 0 Q (F0 m pc ls (.int a1 :: .int a0 :: .ref (ad 0) :: rest)) :=
  call_V (q := (RX12, TX12, 98)) (n := 2) (As := [.int a0, .int a1]) (rv := some (.int q.1)) 0 12 F K E hA Z (c_X12_findLeft (l := l) (D := D) (ad := ad) (cy := cy) (ee := ee) hf) ⟨wd1125, wd1124, wd1126, wd1127, wd1008⟩ (by decide +kernel) rfl rfl hR rfl hl hst hd kk
end
set_option maxRecDepth 100000 in
set_option maxHeartbeats 4000000 in
theorem c_X12_comes {l : Launch} {D : va_G} {ad : Nat → Nat} {cy : Nat → ClassId} {ee : EE} {n : Nat} {st : StT} {x1 : Int32} {x2 : Int32} {x3 : Int32} {x4 : Int32} {res : (Int32 × StT)} (hf : f_X12_comes n st x1 x2 x3 x4 = some res) : CT l yX12_comes cX12_comes 6 (some .boolean) 1 23 D cy ee (wM ad cy st) (wM ad cy res.2) [.ref (ad 0), .int x1, .int x2, .int x3, .int x4] (some (.int res.1)) := by
  refine CT.of (by decide +kernel) (Nat.le_of_ble_eq_true rfl) ?_
  intro p e s m args below meth c A F hr hk K E hA Z ls hl
  have hl : lv_has ls 6 [(0, .ref (ad 0)), (1, .int x1), (2, .int x2), (3, .int x3), (4, .int x4)] := hl
  have hx := F.1
  have hb := F.2.1
  unfold f_X12_comes at hf
  refine lv_iload_n hx hb dX12_comes_0 rfl (lv_at hl 2 rfl) ?_
  refine lv_if_ge (tgt := 12) hx hb dX12_comes_1 (by decide) (fun c1 => ?_) (fun c1 => ?_)
  · have hf := if_t c1 hf
    refine lv_aload_n hx hb dX12_comes_12 rfl (lv_at hl 0 rfl) ?_
    refine lv_iload_n hx hb dX12_comes_13 rfl (lv_at hl 1 rfl) ?_
    refine lv_iload_n hx hb dX12_comes_14 rfl (lv_at hl 2 rfl) ?_
    obtain ⟨q15, h15, hf⟩ := bind_some hf
    refine krX12_328_X12_findLeft F K E hA Z h15 ⟨Nat.le_of_ble_eq_true rfl, Nat.le_of_ble_eq_true rfl⟩ hl.1 (Nat.le_of_ble_eq_true rfl) dX12_comes_15 (fun H locs Z => ?_)
    refine lv_if_lt (tgt := 23) hx hb dX12_comes_18 (by decide) (fun c18 => ?_) (fun c18 => ?_)
    · have hf := if_t c18 hf
      refine lv_aload_n hx hb dX12_comes_23 rfl (lv_at hl 0 rfl) ?_
      refine gmX12_82 F K Z dX12_comes_24 ?_
      refine lv_iload_n hx hb dX12_comes_27 rfl (lv_at hl 1 rfl) ?_
      obtain ⟨i28, hf⟩ := if_some hf
      refine ml23 F K Z i28 dX12_comes_28 ?_
      refine lv_bipush (v := 60) hx hb dX12_comes_29 (by decide) ?_
      refine lv_icmp_ne (tgt := 42) hx hb dX12_comes_31 (by decide) (fun c31 => ?_) (fun c31 => ?_)
      · have hf := if_f c31 hf
        refine lv_bipush (v := 60) hx hb dX12_comes_42 (by decide) ?_
        refine lv_iload_n hx hb dX12_comes_44 rfl (lv_at hl 1 rfl) ?_
        refine lv_imul hx hb dX12_comes_45 ?_
        refine lv_aload_n hx hb dX12_comes_46 rfl (lv_at hl 0 rfl) ?_
        refine gmX12_82 F K Z dX12_comes_47 ?_
        refine lv_iload_n hx hb dX12_comes_50 rfl (lv_at hl 1 rfl) ?_
        obtain ⟨i51, hf⟩ := if_some hf
        refine ml23 F K Z i51 dX12_comes_51 ?_
        refine lv_iadd hx hb dX12_comes_52 ?_
        refine lv_istore (lv' := [(5, .int (((60 : Int32) * x1) + (q15.2.2.1 22 (x1).toNatClampNeg))), (0, .ref (ad 0)), (1, .int x1), (2, .int x2), (3, .int x3), (4, .int x4)]) hx hb dX12_comes_53 hl (by decide) rfl (fun ls hl => ?_)
        refine lv_aload_n hx hb dX12_comes_55 rfl (lv_at hl 1 rfl) ?_
        refine gmX12_73 F K Z dX12_comes_56 ?_
        refine lv_iload hx hb dX12_comes_59 (lv_at hl 0 rfl) ?_
        refine lv_iload_n hx hb dX12_comes_61 rfl (lv_at hl 3 rfl) ?_
        obtain ⟨i62, hf⟩ := if_some hf
        refine ms20 F K Z i62 dX12_comes_62 (fun H locs Z => ?_)
        refine lv_aload_n hx hb dX12_comes_63 rfl (lv_at hl 1 rfl) ?_
        refine gmX12_76 F K Z dX12_comes_64 ?_
        refine lv_iload hx hb dX12_comes_67 (lv_at hl 0 rfl) ?_
        refine lv_iload_n hx hb dX12_comes_69 rfl (lv_at hl 4 rfl) ?_
        obtain ⟨i70, hf⟩ := if_some hf
        refine ms21 F K Z i70 dX12_comes_70 (fun H locs Z => ?_)
        refine lv_aload_n hx hb dX12_comes_71 rfl (lv_at hl 1 rfl) ?_
        refine gmX12_79 F K Z dX12_comes_72 ?_
        refine lv_iload hx hb dX12_comes_75 (lv_at hl 0 rfl) ?_
        refine lv_iload hx hb dX12_comes_77 (lv_at hl 5 rfl) ?_
        obtain ⟨i79, hf⟩ := if_some hf
        refine ms22 F K Z i79 dX12_comes_79 (fun H locs Z => ?_)
        refine lv_aload_n hx hb dX12_comes_80 rfl (lv_at hl 1 rfl) ?_
        refine gmX12_82 F K Z dX12_comes_81 ?_
        refine lv_iload_n hx hb dX12_comes_84 rfl (lv_at hl 2 rfl) ?_
        refine lv_dup2_11 hx hb dX12_comes_85 rfl rfl ?_
        obtain ⟨i86, hf⟩ := if_some hf
        refine ml23 F K Z i86 dX12_comes_86 ?_
        refine lv_iconst (v := 1) hx hb dX12_comes_87 (by decide) ?_
        refine lv_iadd hx hb dX12_comes_88 ?_
        obtain ⟨i89, hf⟩ := if_some hf
        refine ms23 F K Z i89 dX12_comes_89 (fun H locs Z => ?_)
        refine lv_aload_n hx hb dX12_comes_90 rfl (lv_at hl 1 rfl) ?_
        refine lv_aload_n hx hb dX12_comes_91 rfl (lv_at hl 1 rfl) ?_
        refine gmX12_82 F K Z dX12_comes_92 ?_
        refine lv_iload_n hx hb dX12_comes_95 rfl (lv_at hl 2 rfl) ?_
        obtain ⟨i96, hf⟩ := if_some hf
        refine ml23 F K Z i96 dX12_comes_96 ?_
        refine lv_aload_n hx hb dX12_comes_97 rfl (lv_at hl 1 rfl) ?_
        refine gmX12_332 F K Z dX12_comes_98 ?_
        refine lv_icmp_le (tgt := 113) hx hb dX12_comes_101 (by decide) (fun c101 => ?_) (fun c101 => ?_)
        · have hf := if_t c101 hf
          refine lv_aload_n hx hb dX12_comes_113 rfl (lv_at hl 1 rfl) ?_
          refine gmX12_332 F K Z dX12_comes_114 ?_
          refine pmX12_332 F K Z dX12_comes_117 (fun H locs Z => ?_)
          refine lv_iconst (v := 1) hx hb dX12_comes_120 (by decide) ?_
          have hf := Option.some.inj hf
          subst hf
          exact ret_z F hr hk Z rfl dX12_comes_121
        have hf := if_f c101 hf
        refine lv_aload_n hx hb dX12_comes_104 rfl (lv_at hl 1 rfl) ?_
        refine gmX12_82 F K Z dX12_comes_105 ?_
        refine lv_iload_n hx hb dX12_comes_108 rfl (lv_at hl 2 rfl) ?_
        obtain ⟨i109, hf⟩ := if_some hf
        refine ml23 F K Z i109 dX12_comes_109 ?_
        refine lv_goto (tgt := 117) hx hb dX12_comes_110 (by decide) ?_
        refine pmX12_332 F K Z dX12_comes_117 (fun H locs Z => ?_)
        refine lv_iconst (v := 1) hx hb dX12_comes_120 (by decide) ?_
        have hf := Option.some.inj hf
        subst hf
        exact ret_z F hr hk Z rfl dX12_comes_121
      have hf := if_t c31 hf
      refine lv_aload_n hx hb dX12_comes_34 rfl (lv_at hl 0 rfl) ?_
      refine lv_bipush (v := -7) hx hb dX12_comes_35 (by decide) ?_
      refine pmX12_325 F K Z dX12_comes_37 (fun H locs Z => ?_)
      refine lv_iconst (v := 0) hx hb dX12_comes_40 (by decide) ?_
      have hf := Option.some.inj hf
      subst hf
      exact ret_z F hr hk Z rfl dX12_comes_41
    have hf := if_f c18 hf
    refine lv_iconst (v := 1) hx hb dX12_comes_21 (by decide) ?_
    have hf := Option.some.inj hf
    subst hf
    exact ret_z F hr hk Z rfl dX12_comes_22
  have hf := if_f c1 hf
  refine lv_aload_n hx hb dX12_comes_4 rfl (lv_at hl 0 rfl) ?_
  refine lv_bipush (v := -7) hx hb dX12_comes_5 (by decide) ?_
  refine pmX12_325 F K Z dX12_comes_7 (fun H locs Z => ?_)
  refine lv_iconst (v := 0) hx hb dX12_comes_10 (by decide) ?_
  have hf := Option.some.inj hf
  subst hf
  exact ret_z F hr hk Z rfl dX12_comes_11
def f_X12_termOf (n : Nat) (st : StT) (x1 : Int32) (x2 : Int32) : Option (Int32 × StT) := if inB (((60 : Int32) * x1) + x2) 12060 = true then (if inB (((60 : Int32) * x1) + x2) 12060 = true then (if inB x1 201 = true then (if (st.2.1 21 ((((60 : Int32) * x1) + x2)).toNatClampNeg) = (st.2.1 24 (x1).toNatClampNeg) then (some ((st.2.1 20 ((((60 : Int32) * x1) + x2)).toNatClampNeg), st)) else (if inB (((60 : Int32) * x1) + x2) 12060 = true then ((f_X12_term n st (77 : Int32) (st.2.1 21 ((((60 : Int32) * x1) + x2)).toNatClampNeg) (st.2.1 20 ((((60 : Int32) * x1) + x2)).toNatClampNeg) (-1 : Int32) (-1 : Int32)).bind fun q53 => (some (q53.1, q53.2))) else none)) else none) else none) else none
theorem wd1128 : Cond.fieldLink RX12 88 "WorldProverModel" "around" "[I" ∈ Gw := gT6 (List.mem_of_getElem? (i := 101) rfl) rfl
section
variable {p : Program} {l : Launch} {e : Env} {R : Room} {s : State} {m : MethodId} {args : Array Value} {below : List Frame} {meth : Method} {c : Code} {H : Heap} {locs : List Loc} {Q : State → Prop}
variable {cc : ByteArray} {nL pc : Nat} {ls : Array Slot} {rest : List Value} {D : va_G} {A : Nat → Prop} {cw : Cond} {ad : Nat → Nat} {cy : Nat → ClassId} {ee : EE} {st : StT} {own : String}
theorem ml21 {i : Int32} (F : CallFix p m c cc nL s args (cw :: Gw) own) (K : va_K D vwCl (tyL cy) s) (Z : ZG D (wM ad cy st) A s H locs) (hi : inB i 12060 = true) (hd : decode cc pc = .ok (.iaload, 1)) (kk : W p l e R s m args below meth c H locs 0 0 Q (F0 m (pc + 1) ls (.int (st.2.1 20 i.toNatClampNeg) :: rest))) : W p l e R s m args below meth c H locs 0 0 Q (F0 m pc ls (.int i :: .ref (ad 21) :: rest)) :=
  va_iald F.1 F.2.1 K Z.1 21 1 rfl rfl (inB_vp hi) hd kk
theorem ml22 {i : Int32} (F : CallFix p m c cc nL s args (cw :: Gw) own) (K : va_K D vwCl (tyL cy) s) (Z : ZG D (wM ad cy st) A s H locs) (hi : inB i 12060 = true) (hd : decode cc pc = .ok (.iaload, 1)) (kk : W p l e R s m args below meth c H locs 0 0 Q (F0 m (pc + 1) ls (.int (st.2.1 21 i.toNatClampNeg) :: rest))) : W p l e R s m args below meth c H locs 0 0 Q (F0 m pc ls (.int i :: .ref (ad 22) :: rest)) :=
  va_iald F.1 F.2.1 K Z.1 22 1 rfl rfl (inB_vp hi) hd kk
theorem gmX12_88 (F : CallFix p m c cc nL s args (cw :: Gw) RX12) (K : va_K D vwCl (tyL cy) s) (Z : ZG D (wM ad cy st) A s H locs) (hd : decode cc pc = .ok (.getfield 88, 3)) (kk : W p l e R s m args below meth c H locs 0 0 Q (F0 m (pc + 3) ls (.ref (ad 25) :: rest))) : W p l e R s m args below meth c H locs 0 0 Q (F0 m pc ls (.ref (ad 0) :: rest)) :=
  va_get (D := D) (ci := 12) (C := RX12) (T := TX12) (N := 98) F.1 F.2.1 F.2.2.2.2 (fun w h => List.mem_cons_of_mem _ (inG_X12 w h)) F.2.2.2.1 K Z.1 0 rfl rfl 43 (by decide) (F.2.2.2.2 _ (List.mem_cons_of_mem _ wd1128)) (fun _ h => h) rfl hd kk
theorem ml25 {i : Int32} (F : CallFix p m c cc nL s args (cw :: Gw) own) (K : va_K D vwCl (tyL cy) s) (Z : ZG D (wM ad cy st) A s H locs) (hi : inB i 201 = true) (hd : decode cc pc = .ok (.iaload, 1)) (kk : W p l e R s m args below meth c H locs 0 0 Q (F0 m (pc + 1) ls (.int (st.2.1 24 i.toNatClampNeg) :: rest))) : W p l e R s m args below meth c H locs 0 0 Q (F0 m pc ls (.int i :: .ref (ad 25) :: rest)) :=
  va_iald F.1 F.2.1 K Z.1 25 1 rfl rfl (inB_vp hi) hd kk
end
set_option maxRecDepth 100000 in
set_option maxHeartbeats 4000000 in
theorem c_X12_termOf {l : Launch} {D : va_G} {ad : Nat → Nat} {cy : Nat → ClassId} {ee : EE} {n : Nat} {st : StT} {x1 : Int32} {x2 : Int32} {res : (Int32 × StT)} (hf : f_X12_termOf n st x1 x2 = some res) : CT l yX12_termOf cX12_termOf 4 (some .int) 1 25 D cy ee (wM ad cy st) (wM ad cy res.2) [.ref (ad 0), .int x1, .int x2] (some (.int res.1)) := by
  refine CT.of (by decide +kernel) (Nat.le_of_ble_eq_true rfl) ?_
  intro p e s m args below meth c A F hr hk K E hA Z ls hl
  have hl : lv_has ls 4 [(0, .ref (ad 0)), (1, .int x1), (2, .int x2)] := hl
  have hx := F.1
  have hb := F.2.1
  unfold f_X12_termOf at hf
  refine lv_aload_n hx hb dX12_termOf_0 rfl (lv_at hl 0 rfl) ?_
  refine gmX12_76 F K Z dX12_termOf_1 ?_
  refine lv_bipush (v := 60) hx hb dX12_termOf_4 (by decide) ?_
  refine lv_iload_n hx hb dX12_termOf_6 rfl (lv_at hl 1 rfl) ?_
  refine lv_imul hx hb dX12_termOf_7 ?_
  refine lv_iload_n hx hb dX12_termOf_8 rfl (lv_at hl 2 rfl) ?_
  refine lv_iadd hx hb dX12_termOf_9 ?_
  obtain ⟨i10, hf⟩ := if_some hf
  refine ml21 F K Z i10 dX12_termOf_10 ?_
  refine lv_istore_n (lv' := [(3, .int (st.2.1 20 ((((60 : Int32) * x1) + x2)).toNatClampNeg)), (0, .ref (ad 0)), (1, .int x1), (2, .int x2)]) hx hb dX12_termOf_11 rfl hl (by decide) rfl (fun ls hl => ?_)
  refine lv_aload_n hx hb dX12_termOf_12 rfl (lv_at hl 1 rfl) ?_
  refine gmX12_79 F K Z dX12_termOf_13 ?_
  refine lv_bipush (v := 60) hx hb dX12_termOf_16 (by decide) ?_
  refine lv_iload_n hx hb dX12_termOf_18 rfl (lv_at hl 2 rfl) ?_
  refine lv_imul hx hb dX12_termOf_19 ?_
  refine lv_iload_n hx hb dX12_termOf_20 rfl (lv_at hl 3 rfl) ?_
  refine lv_iadd hx hb dX12_termOf_21 ?_
  obtain ⟨i22, hf⟩ := if_some hf
  refine ml22 F K Z i22 dX12_termOf_22 ?_
  refine lv_aload_n hx hb dX12_termOf_23 rfl (lv_at hl 1 rfl) ?_
  refine gmX12_88 F K Z dX12_termOf_24 ?_
  refine lv_iload_n hx hb dX12_termOf_27 rfl (lv_at hl 2 rfl) ?_
  obtain ⟨i28, hf⟩ := if_some hf
  refine ml25 F K Z i28 dX12_termOf_28 ?_
  refine lv_icmp_ne (tgt := 36) hx hb dX12_termOf_29 (by decide) (fun c29 => ?_) (fun c29 => ?_)
  · have hf := if_f c29 hf
    refine lv_aload_n hx hb dX12_termOf_36 rfl (lv_at hl 1 rfl) ?_
    refine lv_bipush (v := 77) hx hb dX12_termOf_37 (by decide) ?_
    refine lv_aload_n hx hb dX12_termOf_39 rfl (lv_at hl 1 rfl) ?_
    refine gmX12_79 F K Z dX12_termOf_40 ?_
    refine lv_bipush (v := 60) hx hb dX12_termOf_43 (by decide) ?_
    refine lv_iload_n hx hb dX12_termOf_45 rfl (lv_at hl 2 rfl) ?_
    refine lv_imul hx hb dX12_termOf_46 ?_
    refine lv_iload_n hx hb dX12_termOf_47 rfl (lv_at hl 3 rfl) ?_
    refine lv_iadd hx hb dX12_termOf_48 ?_
    obtain ⟨i49, hf⟩ := if_some hf
    refine ml22 F K Z i49 dX12_termOf_49 ?_
    refine lv_iload_n hx hb dX12_termOf_50 rfl (lv_at hl 0 rfl) ?_
    refine lv_iconst (v := -1) hx hb dX12_termOf_51 (by decide) ?_
    refine lv_iconst (v := -1) hx hb dX12_termOf_52 (by decide) ?_
    obtain ⟨q53, h53, hf⟩ := bind_some hf
    refine krX12_318_X12_term F K E hA Z h53 ⟨Nat.le_of_ble_eq_true rfl, Nat.le_of_ble_eq_true rfl⟩ hl.1 (Nat.le_of_ble_eq_true rfl) dX12_termOf_53 (fun H locs Z => ?_)
    have hf := Option.some.inj hf
    subst hf
    exact ret_i F hr hk Z dX12_termOf_56
  have hf := if_t c29 hf
  refine lv_iload_n hx hb dX12_termOf_32 rfl (lv_at hl 0 rfl) ?_
  refine lv_goto (tgt := 56) hx hb dX12_termOf_33 (by decide) ?_
  have hf := Option.some.inj hf
  subst hf
  exact ret_i F hr hk Z dX12_termOf_56
def f_X12_within_16 (n : Nat) : Nat → StT → Int32 → Int32 → Int32 → Int32 → Int32 → Int32 → Option StT
  | 0, _, _, _, _, _, _, _ => none
  | k + 1, st, x1, x2, x3, x4, x5, x6 => if inB x1 201 = true then (if (st.2.1 22 (x1).toNatClampNeg) ≤ x6 then (if inB x5 201 = true then (if inB x5 201 = true then (some (uA (uA st 23 x5 x3) 24 x5 x4)) else none) else none) else (if x6 = x2 then (f_X12_within_16 n k st x1 x2 x3 x4 x5 (x6 + (1 : Int32))) else (if inB x5 201 = true then (if inB (((60 : Int32) * x1) + x6) 12060 = true then (if inB (((60 : Int32) * x5) + (st.2.1 22 (x5).toNatClampNeg)) 12060 = true then (if inB (((60 : Int32) * x1) + x6) 12060 = true then (if inB (((60 : Int32) * x5) + (st.2.1 22 (x5).toNatClampNeg)) 12060 = true then (if inB (((60 : Int32) * x1) + x6) 12060 = true then (if inB (((60 : Int32) * x5) + (st.2.1 22 (x5).toNatClampNeg)) 12060 = true then (if inB x5 201 = true then (if inB x5 201 = true then (f_X12_within_16 n k (uA (uA (uA (uA st 19 (((60 : Int32) * x5) + (st.2.1 22 (x5).toNatClampNeg)) (st.2.1 19 ((((60 : Int32) * x1) + x6)).toNatClampNeg)) 20 (((60 : Int32) * x5) + (st.2.1 22 (x5).toNatClampNeg)) ((uA st 19 (((60 : Int32) * x5) + (st.2.1 22 (x5).toNatClampNeg)) (st.2.1 19 ((((60 : Int32) * x1) + x6)).toNatClampNeg)).2.1 20 ((((60 : Int32) * x1) + x6)).toNatClampNeg)) 21 (((60 : Int32) * x5) + (st.2.1 22 (x5).toNatClampNeg)) ((uA (uA st 19 (((60 : Int32) * x5) + (st.2.1 22 (x5).toNatClampNeg)) (st.2.1 19 ((((60 : Int32) * x1) + x6)).toNatClampNeg)) 20 (((60 : Int32) * x5) + (st.2.1 22 (x5).toNatClampNeg)) ((uA st 19 (((60 : Int32) * x5) + (st.2.1 22 (x5).toNatClampNeg)) (st.2.1 19 ((((60 : Int32) * x1) + x6)).toNatClampNeg)).2.1 20 ((((60 : Int32) * x1) + x6)).toNatClampNeg)).2.1 21 ((((60 : Int32) * x1) + x6)).toNatClampNeg)) 22 x5 (((uA (uA (uA st 19 (((60 : Int32) * x5) + (st.2.1 22 (x5).toNatClampNeg)) (st.2.1 19 ((((60 : Int32) * x1) + x6)).toNatClampNeg)) 20 (((60 : Int32) * x5) + (st.2.1 22 (x5).toNatClampNeg)) ((uA st 19 (((60 : Int32) * x5) + (st.2.1 22 (x5).toNatClampNeg)) (st.2.1 19 ((((60 : Int32) * x1) + x6)).toNatClampNeg)).2.1 20 ((((60 : Int32) * x1) + x6)).toNatClampNeg)) 21 (((60 : Int32) * x5) + (st.2.1 22 (x5).toNatClampNeg)) ((uA (uA st 19 (((60 : Int32) * x5) + (st.2.1 22 (x5).toNatClampNeg)) (st.2.1 19 ((((60 : Int32) * x1) + x6)).toNatClampNeg)) 20 (((60 : Int32) * x5) + (st.2.1 22 (x5).toNatClampNeg)) ((uA st 19 (((60 : Int32) * x5) + (st.2.1 22 (x5).toNatClampNeg)) (st.2.1 19 ((((60 : Int32) * x1) + x6)).toNatClampNeg)).2.1 20 ((((60 : Int32) * x1) + x6)).toNatClampNeg)).2.1 21 ((((60 : Int32) * x1) + x6)).toNatClampNeg)).2.1 22 (x5).toNatClampNeg) + (1 : Int32))) x1 x2 x3 x4 x5 (x6 + (1 : Int32))) else none) else none) else none) else none) else none) else none) else none) else none) else none))) else none
def f_X12_within (n : Nat) (st : StT) (x1 : Int32) (x2 : Int32) (x3 : Int32) (x4 : Int32) : Option StT := if inB (x1 + (1 : Int32)) 201 = true then (f_X12_within_16 n n (uA st 22 (x1 + (1 : Int32)) (0 : Int32)) x1 x2 x3 x4 (x1 + (1 : Int32)) (0 : Int32)) else none
theorem wd1129 : Cond.fieldLink RX12 85 "WorldProverModel" "goal" "[I" ∈ Gw := gT6 (List.mem_of_getElem? (i := 100) rfl) rfl
section
variable {p : Program} {l : Launch} {e : Env} {R : Room} {s : State} {m : MethodId} {args : Array Value} {below : List Frame} {meth : Method} {c : Code} {H : Heap} {locs : List Loc} {Q : State → Prop}
variable {cc : ByteArray} {nL pc : Nat} {ls : Array Slot} {rest : List Value} {D : va_G} {A : Nat → Prop} {cw : Cond} {ad : Nat → Nat} {cy : Nat → ClassId} {ee : EE} {st : StT} {own : String}
theorem gmX12_85 (F : CallFix p m c cc nL s args (cw :: Gw) RX12) (K : va_K D vwCl (tyL cy) s) (Z : ZG D (wM ad cy st) A s H locs) (hd : decode cc pc = .ok (.getfield 85, 3)) (kk : W p l e R s m args below meth c H locs 0 0 Q (F0 m (pc + 3) ls (.ref (ad 24) :: rest))) : W p l e R s m args below meth c H locs 0 0 Q (F0 m pc ls (.ref (ad 0) :: rest)) :=
  va_get (D := D) (ci := 12) (C := RX12) (T := TX12) (N := 98) F.1 F.2.1 F.2.2.2.2 (fun w h => List.mem_cons_of_mem _ (inG_X12 w h)) F.2.2.2.1 K Z.1 0 rfl rfl 42 (by decide) (F.2.2.2.2 _ (List.mem_cons_of_mem _ wd1129)) (fun _ h => h) rfl hd kk
theorem ms24 {i : Int32} {v : Int32} (F : CallFix p m c cc nL s args (cw :: Gw) own) (K : va_K D vwCl (tyL cy) s) (Z : ZG D (wM ad cy st) A s H locs) (hi : inB i 201 = true) (hd : decode cc pc = .ok (.iastore, 1)) (kk : ∀ (H1 : Heap) (locs1 : List Loc), ZG D (wM ad cy (uA st 23 i v)) A s H1 locs1 → W p l e R s m args below meth c H1 locs1 0 0 Q (F0 m (pc + 1) ls rest)) : W p l e R s m args below meth c H locs 0 0 Q (F0 m pc ls (.int v :: .int i :: .ref (ad 24) :: rest)) :=
  va_iast F.1 F.2.1 K Z.1 Z.2.1 Z.2.2 24 1 rfl rfl (inB_vp hi) hd (fun H1 locs1 hP hD hS => kk H1 locs1 ⟨hP, hD, hS⟩)
theorem ms25 {i : Int32} {v : Int32} (F : CallFix p m c cc nL s args (cw :: Gw) own) (K : va_K D vwCl (tyL cy) s) (Z : ZG D (wM ad cy st) A s H locs) (hi : inB i 201 = true) (hd : decode cc pc = .ok (.iastore, 1)) (kk : ∀ (H1 : Heap) (locs1 : List Loc), ZG D (wM ad cy (uA st 24 i v)) A s H1 locs1 → W p l e R s m args below meth c H1 locs1 0 0 Q (F0 m (pc + 1) ls rest)) : W p l e R s m args below meth c H locs 0 0 Q (F0 m pc ls (.int v :: .int i :: .ref (ad 25) :: rest)) :=
  va_iast F.1 F.2.1 K Z.1 Z.2.1 Z.2.2 25 1 rfl rfl (inB_vp hi) hd (fun H1 locs1 hP hD hS => kk H1 locs1 ⟨hP, hD, hS⟩)
end
set_option maxRecDepth 100000 in
set_option maxHeartbeats 4000000 in
theorem b_X12_within_16 {p : Program} {l : Launch} {e : Env} {s : State} {m : MethodId} {args : Array Value} {below : List Frame} {meth : Method} {c : Code} {D : va_G} {A : Nat → Prop} {ad : Nat → Nat} {cy : Nat → ClassId} {ee : EE} {n : Nat} {res : StT} (F : CallFix p m c cX12_within 8 s args (Cond.code yX12_within cX12_within 8 none :: Gw) yX12_within.cls) (hr : meth.sig.returnType = none) (hk : meth.locks = false) (K : va_K D vwCl (tyL cy) s) (E : EV ee A s s.heap) (hA : ∀ q, s.heap.size ≤ q → A q) : ∀ (k : Nat) (st : StT) (x1 : Int32) (x2 : Int32) (x3 : Int32) (x4 : Int32) (x5 : Int32) (x6 : Int32), f_X12_within_16 n k st x1 x2 x3 x4 x5 x6 = some res → ∀ (H : Heap) (locs : List Loc) (ls : Array Slot), ZG D (wM ad cy st) A s H locs → lv_has ls 8 [(0, .ref (ad 0)), (1, .int x1), (2, .int x2), (3, .int x3), (4, .int x4), (5, .int x5), (6, .int x6)] → W p l e { frames := 0, cells := 0, slots := 0, locals := 0 } s m args below meth c H locs 0 0 (MQ below (QC D (none) (wM ad cy res) A) args s 0 0 A) (F0 m 16 ls []) := by
  have hx := F.1
  have hb := F.2.1
  intro k
  induction k with
  | zero =>
    intro st x1 x2 x3 x4 x5 x6 hf
    exact absurd hf (by simp [f_X12_within_16])
  | succ k ih =>
    intro st x1 x2 x3 x4 x5 x6 hf H locs ls Z hl
    rw [f_X12_within_16] at hf
    refine lv_iload hx hb dX12_within_16 (lv_at hl 6 rfl) ?_
    refine lv_aload_n hx hb dX12_within_18 rfl (lv_at hl 0 rfl) ?_
    refine gmX12_82 F K Z dX12_within_19 ?_
    refine lv_iload_n hx hb dX12_within_22 rfl (lv_at hl 1 rfl) ?_
    obtain ⟨i23, hf⟩ := if_some hf
    refine ml23 F K Z i23 dX12_within_23 ?_
    refine lv_icmp_ge (tgt := 122) hx hb dX12_within_24 (by decide) (fun c24 => ?_) (fun c24 => ?_)
    · have hf := if_t c24 hf
      refine lv_aload_n hx hb dX12_within_122 rfl (lv_at hl 0 rfl) ?_
      refine gmX12_85 F K Z dX12_within_123 ?_
      refine lv_iload hx hb dX12_within_126 (lv_at hl 5 rfl) ?_
      refine lv_iload_n hx hb dX12_within_128 rfl (lv_at hl 3 rfl) ?_
      obtain ⟨i129, hf⟩ := if_some hf
      refine ms24 F K Z i129 dX12_within_129 (fun H locs Z => ?_)
      refine lv_aload_n hx hb dX12_within_130 rfl (lv_at hl 0 rfl) ?_
      refine gmX12_88 F K Z dX12_within_131 ?_
      refine lv_iload hx hb dX12_within_134 (lv_at hl 5 rfl) ?_
      refine lv_iload hx hb dX12_within_136 (lv_at hl 4 rfl) ?_
      obtain ⟨i138, hf⟩ := if_some hf
      refine ms25 F K Z i138 dX12_within_138 (fun H locs Z => ?_)
      have hf := Option.some.inj hf
      subst hf
      exact ret_v F hr hk Z dX12_within_139
    have hf := if_f c24 hf
    refine lv_iload hx hb dX12_within_27 (lv_at hl 6 rfl) ?_
    refine lv_iload_n hx hb dX12_within_29 rfl (lv_at hl 2 rfl) ?_
    refine lv_icmp_eq (tgt := 116) hx hb dX12_within_30 (by decide) (fun c30 => ?_) (fun c30 => ?_)
    · have hf := if_t c30 hf
      refine lv_iinc (v := (x6 + (1 : Int32))) (lv' := [(6, .int (x6 + (1 : Int32))), (0, .ref (ad 0)), (1, .int x1), (2, .int x2), (3, .int x3), (4, .int x4), (5, .int x5)]) hx hb dX12_within_116 hl (k := 6) rfl (congrArg (fun z => x6 + z) (by decide)) (by decide) rfl (fun ls hl => ?_)
      refine lv_goto (tgt := 16) hx hb dX12_within_119 (by decide) ?_
      exact ih _ _ _ _ _ _ _ hf _ _ _ Z (lv_sub hl [1, 2, 3, 4, 5, 6, 0] rfl)
    have hf := if_f c30 hf
    refine lv_bipush (v := 60) hx hb dX12_within_33 (by decide) ?_
    refine lv_iload hx hb dX12_within_35 (lv_at hl 5 rfl) ?_
    refine lv_imul hx hb dX12_within_37 ?_
    refine lv_aload_n hx hb dX12_within_38 rfl (lv_at hl 0 rfl) ?_
    refine gmX12_82 F K Z dX12_within_39 ?_
    refine lv_iload hx hb dX12_within_42 (lv_at hl 5 rfl) ?_
    obtain ⟨i44, hf⟩ := if_some hf
    refine ml23 F K Z i44 dX12_within_44 ?_
    refine lv_iadd hx hb dX12_within_45 ?_
    refine lv_istore (lv' := [(7, .int (((60 : Int32) * x5) + (st.2.1 22 (x5).toNatClampNeg))), (0, .ref (ad 0)), (1, .int x1), (2, .int x2), (3, .int x3), (4, .int x4), (5, .int x5), (6, .int x6)]) hx hb dX12_within_46 hl (by decide) rfl (fun ls hl => ?_)
    refine lv_aload_n hx hb dX12_within_48 rfl (lv_at hl 1 rfl) ?_
    refine gmX12_73 F K Z dX12_within_49 ?_
    refine lv_iload hx hb dX12_within_52 (lv_at hl 0 rfl) ?_
    refine lv_aload_n hx hb dX12_within_54 rfl (lv_at hl 1 rfl) ?_
    refine gmX12_73 F K Z dX12_within_55 ?_
    refine lv_bipush (v := 60) hx hb dX12_within_58 (by decide) ?_
    refine lv_iload_n hx hb dX12_within_60 rfl (lv_at hl 2 rfl) ?_
    refine lv_imul hx hb dX12_within_61 ?_
    refine lv_iload hx hb dX12_within_62 (lv_at hl 7 rfl) ?_
    refine lv_iadd hx hb dX12_within_64 ?_
    obtain ⟨i65, hf⟩ := if_some hf
    refine ml20 F K Z i65 dX12_within_65 ?_
    obtain ⟨i66, hf⟩ := if_some hf
    refine ms20 F K Z i66 dX12_within_66 (fun H locs Z => ?_)
    refine lv_aload_n hx hb dX12_within_67 rfl (lv_at hl 1 rfl) ?_
    refine gmX12_76 F K Z dX12_within_68 ?_
    refine lv_iload hx hb dX12_within_71 (lv_at hl 0 rfl) ?_
    refine lv_aload_n hx hb dX12_within_73 rfl (lv_at hl 1 rfl) ?_
    refine gmX12_76 F K Z dX12_within_74 ?_
    refine lv_bipush (v := 60) hx hb dX12_within_77 (by decide) ?_
    refine lv_iload_n hx hb dX12_within_79 rfl (lv_at hl 2 rfl) ?_
    refine lv_imul hx hb dX12_within_80 ?_
    refine lv_iload hx hb dX12_within_81 (lv_at hl 7 rfl) ?_
    refine lv_iadd hx hb dX12_within_83 ?_
    obtain ⟨i84, hf⟩ := if_some hf
    refine ml21 F K Z i84 dX12_within_84 ?_
    obtain ⟨i85, hf⟩ := if_some hf
    refine ms21 F K Z i85 dX12_within_85 (fun H locs Z => ?_)
    refine lv_aload_n hx hb dX12_within_86 rfl (lv_at hl 1 rfl) ?_
    refine gmX12_79 F K Z dX12_within_87 ?_
    refine lv_iload hx hb dX12_within_90 (lv_at hl 0 rfl) ?_
    refine lv_aload_n hx hb dX12_within_92 rfl (lv_at hl 1 rfl) ?_
    refine gmX12_79 F K Z dX12_within_93 ?_
    refine lv_bipush (v := 60) hx hb dX12_within_96 (by decide) ?_
    refine lv_iload_n hx hb dX12_within_98 rfl (lv_at hl 2 rfl) ?_
    refine lv_imul hx hb dX12_within_99 ?_
    refine lv_iload hx hb dX12_within_100 (lv_at hl 7 rfl) ?_
    refine lv_iadd hx hb dX12_within_102 ?_
    obtain ⟨i103, hf⟩ := if_some hf
    refine ml22 F K Z i103 dX12_within_103 ?_
    obtain ⟨i104, hf⟩ := if_some hf
    refine ms22 F K Z i104 dX12_within_104 (fun H locs Z => ?_)
    refine lv_aload_n hx hb dX12_within_105 rfl (lv_at hl 1 rfl) ?_
    refine gmX12_82 F K Z dX12_within_106 ?_
    refine lv_iload hx hb dX12_within_109 (lv_at hl 6 rfl) ?_
    refine lv_dup2_11 hx hb dX12_within_111 rfl rfl ?_
    obtain ⟨i112, hf⟩ := if_some hf
    refine ml23 F K Z i112 dX12_within_112 ?_
    refine lv_iconst (v := 1) hx hb dX12_within_113 (by decide) ?_
    refine lv_iadd hx hb dX12_within_114 ?_
    obtain ⟨i115, hf⟩ := if_some hf
    refine ms23 F K Z i115 dX12_within_115 (fun H locs Z => ?_)
    refine lv_iinc (v := (x6 + (1 : Int32))) (lv' := [(6, .int (x6 + (1 : Int32))), (7, .int (((60 : Int32) * x5) + (st.2.1 22 (x5).toNatClampNeg))), (0, .ref (ad 0)), (1, .int x1), (2, .int x2), (3, .int x3), (4, .int x4), (5, .int x5)]) hx hb dX12_within_116 hl (k := 7) rfl (congrArg (fun z => x6 + z) (by decide)) (by decide) rfl (fun ls hl => ?_)
    refine lv_goto (tgt := 16) hx hb dX12_within_119 (by decide) ?_
    exact ih _ _ _ _ _ _ _ hf _ _ _ Z (lv_sub hl [2, 3, 4, 5, 6, 7, 0] rfl)
set_option maxRecDepth 100000 in
set_option maxHeartbeats 4000000 in
theorem c_X12_within {l : Launch} {D : va_G} {ad : Nat → Nat} {cy : Nat → ClassId} {ee : EE} {n : Nat} {st : StT} {x1 : Int32} {x2 : Int32} {x3 : Int32} {x4 : Int32} {res : StT} (hf : f_X12_within n st x1 x2 x3 x4 = some res) : CT l yX12_within cX12_within 8 none 0 0 D cy ee (wM ad cy st) (wM ad cy res) [.ref (ad 0), .int x1, .int x2, .int x3, .int x4] (none) := by
  refine CT.of (by decide +kernel) (Nat.le_of_ble_eq_true rfl) ?_
  intro p e s m args below meth c A F hr hk K E hA Z ls hl
  have hl : lv_has ls 8 [(0, .ref (ad 0)), (1, .int x1), (2, .int x2), (3, .int x3), (4, .int x4)] := hl
  have hx := F.1
  have hb := F.2.1
  unfold f_X12_within at hf
  refine lv_iload_n hx hb dX12_within_0 rfl (lv_at hl 1 rfl) ?_
  refine lv_iconst (v := 1) hx hb dX12_within_1 (by decide) ?_
  refine lv_iadd hx hb dX12_within_2 ?_
  refine lv_istore (lv' := [(5, .int (x1 + (1 : Int32))), (0, .ref (ad 0)), (1, .int x1), (2, .int x2), (3, .int x3), (4, .int x4)]) hx hb dX12_within_3 hl (by decide) rfl (fun ls hl => ?_)
  refine lv_aload_n hx hb dX12_within_5 rfl (lv_at hl 1 rfl) ?_
  refine gmX12_82 F K Z dX12_within_6 ?_
  refine lv_iload hx hb dX12_within_9 (lv_at hl 0 rfl) ?_
  refine lv_iconst (v := 0) hx hb dX12_within_11 (by decide) ?_
  obtain ⟨i12, hf⟩ := if_some hf
  refine ms23 F K Z i12 dX12_within_12 (fun H locs Z => ?_)
  refine lv_iconst (v := 0) hx hb dX12_within_13 (by decide) ?_
  refine lv_istore (lv' := [(6, .int (0 : Int32)), (5, .int (x1 + (1 : Int32))), (0, .ref (ad 0)), (1, .int x1), (2, .int x2), (3, .int x3), (4, .int x4)]) hx hb dX12_within_14 hl (by decide) rfl (fun ls hl => ?_)
  exact b_X12_within_16 F hr hk K E hA _ _ _ _ _ _ _ _ hf _ _ _ Z (lv_sub hl [2, 3, 4, 5, 6, 1, 0] rfl)
def f_X12_begin (n : Nat) (st : StT) : Option (Int32 × StT) := if (st.1 19) = (199 : Int32) then (some ((3 : Int32), (uF st 24 (-7 : Int32)))) else (if inB ((uF st 19 ((st.1 19) + (1 : Int32))).1 19) 201 = true then (if ((uA (uF st 19 ((st.1 19) + (1 : Int32))) 25 ((uF st 19 ((st.1 19) + (1 : Int32))).1 19) (0 : Int32)).1 20) = ((uA (uF st 19 ((st.1 19) + (1 : Int32))) 25 ((uF st 19 ((st.1 19) + (1 : Int32))).1 19) (0 : Int32)).1 21) then (some ((3 : Int32), (uF (uA (uF st 19 ((st.1 19) + (1 : Int32))) 25 ((uF st 19 ((st.1 19) + (1 : Int32))).1 19) (0 : Int32)) 24 (-6 : Int32)))) else (if (((uF (uA (uF st 19 ((st.1 19) + (1 : Int32))) 25 ((uF st 19 ((st.1 19) + (1 : Int32))).1 19) (0 : Int32)) 20 (((uA (uF st 19 ((st.1 19) + (1 : Int32))) 25 ((uF st 19 ((st.1 19) + (1 : Int32))).1 19) (0 : Int32)).1 20) + (1 : Int32))).1 19) + (1 : Int32)) ≤ ((uF (uA (uF st 19 ((st.1 19) + (1 : Int32))) 25 ((uF st 19 ((st.1 19) + (1 : Int32))).1 19) (0 : Int32)) 20 (((uA (uF st 19 ((st.1 19) + (1 : Int32))) 25 ((uF st 19 ((st.1 19) + (1 : Int32))).1 19) (0 : Int32)).1 20) + (1 : Int32))).1 23) then (some ((2 : Int32), (uF (uF (uA (uF st 19 ((st.1 19) + (1 : Int32))) 25 ((uF st 19 ((st.1 19) + (1 : Int32))).1 19) (0 : Int32)) 20 (((uA (uF st 19 ((st.1 19) + (1 : Int32))) 25 ((uF st 19 ((st.1 19) + (1 : Int32))).1 19) (0 : Int32)).1 20) + (1 : Int32))) 23 ((uF (uA (uF st 19 ((st.1 19) + (1 : Int32))) 25 ((uF st 19 ((st.1 19) + (1 : Int32))).1 19) (0 : Int32)) 20 (((uA (uF st 19 ((st.1 19) + (1 : Int32))) 25 ((uF st 19 ((st.1 19) + (1 : Int32))).1 19) (0 : Int32)).1 20) + (1 : Int32))).1 23)))) else (some ((2 : Int32), (uF (uF (uA (uF st 19 ((st.1 19) + (1 : Int32))) 25 ((uF st 19 ((st.1 19) + (1 : Int32))).1 19) (0 : Int32)) 20 (((uA (uF st 19 ((st.1 19) + (1 : Int32))) 25 ((uF st 19 ((st.1 19) + (1 : Int32))).1 19) (0 : Int32)).1 20) + (1 : Int32))) 23 (((uF (uA (uF st 19 ((st.1 19) + (1 : Int32))) 25 ((uF st 19 ((st.1 19) + (1 : Int32))).1 19) (0 : Int32)) 20 (((uA (uF st 19 ((st.1 19) + (1 : Int32))) 25 ((uF st 19 ((st.1 19) + (1 : Int32))).1 19) (0 : Int32)).1 20) + (1 : Int32))).1 19) + (1 : Int32))))))) else none)
theorem wd1130 : Cond.fieldLink RX12 335 "WorldProverModel" "depth" "I" ∈ Gw := gT6 (List.mem_of_getElem? (i := 106) rfl) rfl
theorem wd1131 : Cond.fieldLink RX12 91 "WorldProverModel" "waits" "[I" ∈ Gw := gT6 (List.mem_of_getElem? (i := 102) rfl) rfl
theorem wd1132 : Cond.fieldLink RX12 338 "WorldProverModel" "steps" "I" ∈ Gw := gT6 (List.mem_of_getElem? (i := 107) rfl) rfl
theorem wd1133 : Cond.fieldLink RX12 341 "WorldProverModel" "mostSteps" "I" ∈ Gw := gT6 (List.mem_of_getElem? (i := 108) rfl) rfl
theorem wd1134 : Cond.fieldLink RX12 344 "WorldProverModel" "mostDepth" "I" ∈ Gw := gT6 (List.mem_of_getElem? (i := 110) rfl) rfl
section
variable {p : Program} {l : Launch} {e : Env} {R : Room} {s : State} {m : MethodId} {args : Array Value} {below : List Frame} {meth : Method} {c : Code} {H : Heap} {locs : List Loc} {Q : State → Prop}
variable {cc : ByteArray} {nL pc : Nat} {ls : Array Slot} {rest : List Value} {D : va_G} {A : Nat → Prop} {cw : Cond} {ad : Nat → Nat} {cy : Nat → ClassId} {ee : EE} {st : StT} {own : String}
theorem gmX12_335 (F : CallFix p m c cc nL s args (cw :: Gw) RX12) (K : va_K D vwCl (tyL cy) s) (Z : ZG D (wM ad cy st) A s H locs) (hd : decode cc pc = .ok (.getfield 335, 3)) (kk : W p l e R s m args below meth c H locs 0 0 Q (F0 m (pc + 3) ls (.int (st.1 19) :: rest))) : W p l e R s m args below meth c H locs 0 0 Q (F0 m pc ls (.ref (ad 0) :: rest)) :=
  va_get (D := D) (ci := 12) (C := RX12) (T := TX12) (N := 98) F.1 F.2.1 F.2.2.2.2 (fun w h => List.mem_cons_of_mem _ (inG_X12 w h)) F.2.2.2.1 K Z.1 0 rfl rfl 48 (by decide) (F.2.2.2.2 _ (List.mem_cons_of_mem _ wd1130)) (fun _ h => h) rfl hd kk
theorem pmX12_335 {v : Int32} (F : CallFix p m c cc nL s args (cw :: Gw) RX12) (K : va_K D vwCl (tyL cy) s) (Z : ZG D (wM ad cy st) A s H locs) (hd : decode cc pc = .ok (.putfield 335, 3)) (kk : ∀ (H1 : Heap) (locs1 : List Loc), ZG D (wM ad cy (uF st 19 v)) A s H1 locs1 → W p l e R s m args below meth c H1 locs1 0 0 Q (F0 m (pc + 3) ls rest)) : W p l e R s m args below meth c H locs 0 0 Q (F0 m pc ls (.int v :: .ref (ad 0) :: rest)) :=
  va_put (D := D) (ci := 12) (v := .int v) (ty := .int) (C := RX12) (T := TX12) (N := 98) F.1 F.2.1 F.2.2.2.2 (fun w h => List.mem_cons_of_mem _ (inG_X12 w h)) tyX12 tyX12_ok nmX12 F.2.2.2.1 K Z.1 Z.2.1 Z.2.2 0 rfl rfl 48 (by decide) (F.2.2.2.2 _ (List.mem_cons_of_mem _ wd1130)) (fun _ h => h) rfl (by decide +kernel) rfl rfl (Nat.le_of_ble_eq_true rfl) hd (fun H1 locs1 hP hD hS => kk H1 locs1 ⟨hP, hD, hS⟩)
theorem gmX12_91 (F : CallFix p m c cc nL s args (cw :: Gw) RX12) (K : va_K D vwCl (tyL cy) s) (Z : ZG D (wM ad cy st) A s H locs) (hd : decode cc pc = .ok (.getfield 91, 3)) (kk : W p l e R s m args below meth c H locs 0 0 Q (F0 m (pc + 3) ls (.ref (ad 26) :: rest))) : W p l e R s m args below meth c H locs 0 0 Q (F0 m pc ls (.ref (ad 0) :: rest)) :=
  va_get (D := D) (ci := 12) (C := RX12) (T := TX12) (N := 98) F.1 F.2.1 F.2.2.2.2 (fun w h => List.mem_cons_of_mem _ (inG_X12 w h)) F.2.2.2.1 K Z.1 0 rfl rfl 44 (by decide) (F.2.2.2.2 _ (List.mem_cons_of_mem _ wd1131)) (fun _ h => h) rfl hd kk
theorem ms26 {i : Int32} {v : Int32} (F : CallFix p m c cc nL s args (cw :: Gw) own) (K : va_K D vwCl (tyL cy) s) (Z : ZG D (wM ad cy st) A s H locs) (hi : inB i 201 = true) (hd : decode cc pc = .ok (.iastore, 1)) (kk : ∀ (H1 : Heap) (locs1 : List Loc), ZG D (wM ad cy (uA st 25 i v)) A s H1 locs1 → W p l e R s m args below meth c H1 locs1 0 0 Q (F0 m (pc + 1) ls rest)) : W p l e R s m args below meth c H locs 0 0 Q (F0 m pc ls (.int v :: .int i :: .ref (ad 26) :: rest)) :=
  va_iast F.1 F.2.1 K Z.1 Z.2.1 Z.2.2 26 1 rfl rfl (inB_vp hi) hd (fun H1 locs1 hP hD hS => kk H1 locs1 ⟨hP, hD, hS⟩)
theorem gmX12_338 (F : CallFix p m c cc nL s args (cw :: Gw) RX12) (K : va_K D vwCl (tyL cy) s) (Z : ZG D (wM ad cy st) A s H locs) (hd : decode cc pc = .ok (.getfield 338, 3)) (kk : W p l e R s m args below meth c H locs 0 0 Q (F0 m (pc + 3) ls (.int (st.1 20) :: rest))) : W p l e R s m args below meth c H locs 0 0 Q (F0 m pc ls (.ref (ad 0) :: rest)) :=
  va_get (D := D) (ci := 12) (C := RX12) (T := TX12) (N := 98) F.1 F.2.1 F.2.2.2.2 (fun w h => List.mem_cons_of_mem _ (inG_X12 w h)) F.2.2.2.1 K Z.1 0 rfl rfl 49 (by decide) (F.2.2.2.2 _ (List.mem_cons_of_mem _ wd1132)) (fun _ h => h) rfl hd kk
theorem gmX12_341 (F : CallFix p m c cc nL s args (cw :: Gw) RX12) (K : va_K D vwCl (tyL cy) s) (Z : ZG D (wM ad cy st) A s H locs) (hd : decode cc pc = .ok (.getfield 341, 3)) (kk : W p l e R s m args below meth c H locs 0 0 Q (F0 m (pc + 3) ls (.int (st.1 21) :: rest))) : W p l e R s m args below meth c H locs 0 0 Q (F0 m pc ls (.ref (ad 0) :: rest)) :=
  va_get (D := D) (ci := 12) (C := RX12) (T := TX12) (N := 98) F.1 F.2.1 F.2.2.2.2 (fun w h => List.mem_cons_of_mem _ (inG_X12 w h)) F.2.2.2.1 K Z.1 0 rfl rfl 50 (by decide) (F.2.2.2.2 _ (List.mem_cons_of_mem _ wd1133)) (fun _ h => h) rfl hd kk
theorem pmX12_338 {v : Int32} (F : CallFix p m c cc nL s args (cw :: Gw) RX12) (K : va_K D vwCl (tyL cy) s) (Z : ZG D (wM ad cy st) A s H locs) (hd : decode cc pc = .ok (.putfield 338, 3)) (kk : ∀ (H1 : Heap) (locs1 : List Loc), ZG D (wM ad cy (uF st 20 v)) A s H1 locs1 → W p l e R s m args below meth c H1 locs1 0 0 Q (F0 m (pc + 3) ls rest)) : W p l e R s m args below meth c H locs 0 0 Q (F0 m pc ls (.int v :: .ref (ad 0) :: rest)) :=
  va_put (D := D) (ci := 12) (v := .int v) (ty := .int) (C := RX12) (T := TX12) (N := 98) F.1 F.2.1 F.2.2.2.2 (fun w h => List.mem_cons_of_mem _ (inG_X12 w h)) tyX12 tyX12_ok nmX12 F.2.2.2.1 K Z.1 Z.2.1 Z.2.2 0 rfl rfl 49 (by decide) (F.2.2.2.2 _ (List.mem_cons_of_mem _ wd1132)) (fun _ h => h) rfl (by decide +kernel) rfl rfl (Nat.le_of_ble_eq_true rfl) hd (fun H1 locs1 hP hD hS => kk H1 locs1 ⟨hP, hD, hS⟩)
theorem gmX12_344 (F : CallFix p m c cc nL s args (cw :: Gw) RX12) (K : va_K D vwCl (tyL cy) s) (Z : ZG D (wM ad cy st) A s H locs) (hd : decode cc pc = .ok (.getfield 344, 3)) (kk : W p l e R s m args below meth c H locs 0 0 Q (F0 m (pc + 3) ls (.int (st.1 23) :: rest))) : W p l e R s m args below meth c H locs 0 0 Q (F0 m pc ls (.ref (ad 0) :: rest)) :=
  va_get (D := D) (ci := 12) (C := RX12) (T := TX12) (N := 98) F.1 F.2.1 F.2.2.2.2 (fun w h => List.mem_cons_of_mem _ (inG_X12 w h)) F.2.2.2.1 K Z.1 0 rfl rfl 52 (by decide) (F.2.2.2.2 _ (List.mem_cons_of_mem _ wd1134)) (fun _ h => h) rfl hd kk
theorem pmX12_344 {v : Int32} (F : CallFix p m c cc nL s args (cw :: Gw) RX12) (K : va_K D vwCl (tyL cy) s) (Z : ZG D (wM ad cy st) A s H locs) (hd : decode cc pc = .ok (.putfield 344, 3)) (kk : ∀ (H1 : Heap) (locs1 : List Loc), ZG D (wM ad cy (uF st 23 v)) A s H1 locs1 → W p l e R s m args below meth c H1 locs1 0 0 Q (F0 m (pc + 3) ls rest)) : W p l e R s m args below meth c H locs 0 0 Q (F0 m pc ls (.int v :: .ref (ad 0) :: rest)) :=
  va_put (D := D) (ci := 12) (v := .int v) (ty := .int) (C := RX12) (T := TX12) (N := 98) F.1 F.2.1 F.2.2.2.2 (fun w h => List.mem_cons_of_mem _ (inG_X12 w h)) tyX12 tyX12_ok nmX12 F.2.2.2.1 K Z.1 Z.2.1 Z.2.2 0 rfl rfl 52 (by decide) (F.2.2.2.2 _ (List.mem_cons_of_mem _ wd1134)) (fun _ h => h) rfl (by decide +kernel) rfl rfl (Nat.le_of_ble_eq_true rfl) hd (fun H1 locs1 hP hD hS => kk H1 locs1 ⟨hP, hD, hS⟩)
end
set_option maxRecDepth 100000 in
set_option maxHeartbeats 4000000 in
theorem c_X12_begin {l : Launch} {D : va_G} {ad : Nat → Nat} {cy : Nat → ClassId} {ee : EE} {n : Nat} {st : StT} {res : (Int32 × StT)} (hf : f_X12_begin n st = some res) : CT l yX12_begin cX12_begin 1 (some .int) 0 0 D cy ee (wM ad cy st) (wM ad cy res.2) [.ref (ad 0)] (some (.int res.1)) := by
  refine CT.of (by decide +kernel) (Nat.le_of_ble_eq_true rfl) ?_
  intro p e s m args below meth c A F hr hk K E hA Z ls hl
  have hl : lv_has ls 1 [(0, .ref (ad 0))] := hl
  have hx := F.1
  have hb := F.2.1
  unfold f_X12_begin at hf
  refine lv_aload_n hx hb dX12_begin_0 rfl (lv_at hl 0 rfl) ?_
  refine gmX12_335 F K Z dX12_begin_1 ?_
  refine lv_sipush (v := 199) hx hb dX12_begin_4 (by decide) ?_
  refine lv_icmp_ne (tgt := 18) hx hb dX12_begin_7 (by decide) (fun c7 => ?_) (fun c7 => ?_)
  · have hf := if_f c7 hf
    refine lv_aload_n hx hb dX12_begin_18 rfl (lv_at hl 0 rfl) ?_
    refine lv_dup hx hb dX12_begin_19 rfl ?_
    refine gmX12_335 F K Z dX12_begin_20 ?_
    refine lv_iconst (v := 1) hx hb dX12_begin_23 (by decide) ?_
    refine lv_iadd hx hb dX12_begin_24 ?_
    refine pmX12_335 F K Z dX12_begin_25 (fun H locs Z => ?_)
    refine lv_aload_n hx hb dX12_begin_28 rfl (lv_at hl 0 rfl) ?_
    refine gmX12_91 F K Z dX12_begin_29 ?_
    refine lv_aload_n hx hb dX12_begin_32 rfl (lv_at hl 0 rfl) ?_
    refine gmX12_335 F K Z dX12_begin_33 ?_
    refine lv_iconst (v := 0) hx hb dX12_begin_36 (by decide) ?_
    obtain ⟨i37, hf⟩ := if_some hf
    refine ms26 F K Z i37 dX12_begin_37 (fun H locs Z => ?_)
    refine lv_aload_n hx hb dX12_begin_38 rfl (lv_at hl 0 rfl) ?_
    refine gmX12_338 F K Z dX12_begin_39 ?_
    refine lv_aload_n hx hb dX12_begin_42 rfl (lv_at hl 0 rfl) ?_
    refine gmX12_341 F K Z dX12_begin_43 ?_
    refine lv_icmp_ne (tgt := 57) hx hb dX12_begin_46 (by decide) (fun c46 => ?_) (fun c46 => ?_)
    · have hf := if_f c46 hf
      refine lv_aload_n hx hb dX12_begin_57 rfl (lv_at hl 0 rfl) ?_
      refine lv_dup hx hb dX12_begin_58 rfl ?_
      refine gmX12_338 F K Z dX12_begin_59 ?_
      refine lv_iconst (v := 1) hx hb dX12_begin_62 (by decide) ?_
      refine lv_iadd hx hb dX12_begin_63 ?_
      refine pmX12_338 F K Z dX12_begin_64 (fun H locs Z => ?_)
      refine lv_aload_n hx hb dX12_begin_67 rfl (lv_at hl 0 rfl) ?_
      refine lv_aload_n hx hb dX12_begin_68 rfl (lv_at hl 0 rfl) ?_
      refine gmX12_335 F K Z dX12_begin_69 ?_
      refine lv_iconst (v := 1) hx hb dX12_begin_72 (by decide) ?_
      refine lv_iadd hx hb dX12_begin_73 ?_
      refine lv_aload_n hx hb dX12_begin_74 rfl (lv_at hl 0 rfl) ?_
      refine gmX12_344 F K Z dX12_begin_75 ?_
      refine lv_icmp_le (tgt := 90) hx hb dX12_begin_78 (by decide) (fun c78 => ?_) (fun c78 => ?_)
      · have hf := if_t c78 hf
        refine lv_aload_n hx hb dX12_begin_90 rfl (lv_at hl 0 rfl) ?_
        refine gmX12_344 F K Z dX12_begin_91 ?_
        refine pmX12_344 F K Z dX12_begin_94 (fun H locs Z => ?_)
        refine lv_iconst (v := 2) hx hb dX12_begin_97 (by decide) ?_
        have hf := Option.some.inj hf
        subst hf
        exact ret_i F hr hk Z dX12_begin_98
      have hf := if_f c78 hf
      refine lv_aload_n hx hb dX12_begin_81 rfl (lv_at hl 0 rfl) ?_
      refine gmX12_335 F K Z dX12_begin_82 ?_
      refine lv_iconst (v := 1) hx hb dX12_begin_85 (by decide) ?_
      refine lv_iadd hx hb dX12_begin_86 ?_
      refine lv_goto (tgt := 94) hx hb dX12_begin_87 (by decide) ?_
      refine pmX12_344 F K Z dX12_begin_94 (fun H locs Z => ?_)
      refine lv_iconst (v := 2) hx hb dX12_begin_97 (by decide) ?_
      have hf := Option.some.inj hf
      subst hf
      exact ret_i F hr hk Z dX12_begin_98
    have hf := if_t c46 hf
    refine lv_aload_n hx hb dX12_begin_49 rfl (lv_at hl 0 rfl) ?_
    refine lv_bipush (v := -6) hx hb dX12_begin_50 (by decide) ?_
    refine pmX12_325 F K Z dX12_begin_52 (fun H locs Z => ?_)
    refine lv_iconst (v := 3) hx hb dX12_begin_55 (by decide) ?_
    have hf := Option.some.inj hf
    subst hf
    exact ret_i F hr hk Z dX12_begin_56
  have hf := if_t c7 hf
  refine lv_aload_n hx hb dX12_begin_10 rfl (lv_at hl 0 rfl) ?_
  refine lv_bipush (v := -7) hx hb dX12_begin_11 (by decide) ?_
  refine pmX12_325 F K Z dX12_begin_13 (fun H locs Z => ?_)
  refine lv_iconst (v := 3) hx hb dX12_begin_16 (by decide) ?_
  have hf := Option.some.inj hf
  subst hf
  exact ret_i F hr hk Z dX12_begin_17
def f_X12_proved (n : Nat) (st : StT) (x1 : Int32) : Option (Int32 × StT) := some ((1 : Int32), (uF st 25 x1))
theorem wd1135 : Cond.fieldLink RX12 347 "WorldProverModel" "came" "I" ∈ Gw := gT6 (List.mem_of_getElem? (i := 112) rfl) rfl
section
variable {p : Program} {l : Launch} {e : Env} {R : Room} {s : State} {m : MethodId} {args : Array Value} {below : List Frame} {meth : Method} {c : Code} {H : Heap} {locs : List Loc} {Q : State → Prop}
variable {cc : ByteArray} {nL pc : Nat} {ls : Array Slot} {rest : List Value} {D : va_G} {A : Nat → Prop} {cw : Cond} {ad : Nat → Nat} {cy : Nat → ClassId} {ee : EE} {st : StT} {own : String}
theorem pmX12_347 {v : Int32} (F : CallFix p m c cc nL s args (cw :: Gw) RX12) (K : va_K D vwCl (tyL cy) s) (Z : ZG D (wM ad cy st) A s H locs) (hd : decode cc pc = .ok (.putfield 347, 3)) (kk : ∀ (H1 : Heap) (locs1 : List Loc), ZG D (wM ad cy (uF st 25 v)) A s H1 locs1 → W p l e R s m args below meth c H1 locs1 0 0 Q (F0 m (pc + 3) ls rest)) : W p l e R s m args below meth c H locs 0 0 Q (F0 m pc ls (.int v :: .ref (ad 0) :: rest)) :=
  va_put (D := D) (ci := 12) (v := .int v) (ty := .int) (C := RX12) (T := TX12) (N := 98) F.1 F.2.1 F.2.2.2.2 (fun w h => List.mem_cons_of_mem _ (inG_X12 w h)) tyX12 tyX12_ok nmX12 F.2.2.2.1 K Z.1 Z.2.1 Z.2.2 0 rfl rfl 54 (by decide) (F.2.2.2.2 _ (List.mem_cons_of_mem _ wd1135)) (fun _ h => h) rfl (by decide +kernel) rfl rfl (Nat.le_of_ble_eq_true rfl) hd (fun H1 locs1 hP hD hS => kk H1 locs1 ⟨hP, hD, hS⟩)
end
set_option maxRecDepth 100000 in
set_option maxHeartbeats 4000000 in
theorem c_X12_proved {l : Launch} {D : va_G} {ad : Nat → Nat} {cy : Nat → ClassId} {ee : EE} {n : Nat} {st : StT} {x1 : Int32} {res : (Int32 × StT)} (hf : f_X12_proved n st x1 = some res) : CT l yX12_proved cX12_proved 2 (some .int) 0 0 D cy ee (wM ad cy st) (wM ad cy res.2) [.ref (ad 0), .int x1] (some (.int res.1)) := by
  refine CT.of (by decide +kernel) (Nat.le_of_ble_eq_true rfl) ?_
  intro p e s m args below meth c A F hr hk K E hA Z ls hl
  have hl : lv_has ls 2 [(0, .ref (ad 0)), (1, .int x1)] := hl
  have hx := F.1
  have hb := F.2.1
  unfold f_X12_proved at hf
  refine lv_aload_n hx hb dX12_proved_0 rfl (lv_at hl 0 rfl) ?_
  refine lv_iload_n hx hb dX12_proved_1 rfl (lv_at hl 1 rfl) ?_
  refine pmX12_347 F K Z dX12_proved_2 (fun H locs Z => ?_)
  refine lv_iconst (v := 1) hx hb dX12_proved_5 (by decide) ?_
  have hf := Option.some.inj hf
  subst hf
  exact ret_i F hr hk Z dX12_proved_6
def f_X12_isGoing_88 (n : Nat) (st : StT) (x5 : Int32) : Option (Int32 × StT) := if inB x5 4200 = true then (if (st.2.1 0 (x5).toNatClampNeg) = (3 : Int32) then (some ((1 : Int32), st)) else (if inB x5 4200 = true then (if (st.2.1 0 (x5).toNatClampNeg) = (4 : Int32) then (some ((1 : Int32), st)) else (some ((0 : Int32), st))) else none)) else none
def f_X12_isGoing (n : Nat) (st : StT) (x1 : Int32) (x2 : Int32) : Option (Int32 × StT) := if inB (((60 : Int32) * x1) + x2) 12060 = true then (if inB (st.2.1 19 ((((60 : Int32) * x1) + x2)).toNatClampNeg) 4200 = true then (if (st.2.1 0 ((st.2.1 19 ((((60 : Int32) * x1) + x2)).toNatClampNeg)).toNatClampNeg) = (1 : Int32) then (some ((1 : Int32), st)) else (if (st.2.1 0 ((st.2.1 19 ((((60 : Int32) * x1) + x2)).toNatClampNeg)).toNatClampNeg) = (3 : Int32) then (some ((1 : Int32), st)) else (if (st.2.1 0 ((st.2.1 19 ((((60 : Int32) * x1) + x2)).toNatClampNeg)).toNatClampNeg) = (4 : Int32) then (some ((1 : Int32), st)) else (if (st.2.1 0 ((st.2.1 19 ((((60 : Int32) * x1) + x2)).toNatClampNeg)).toNatClampNeg) = (5 : Int32) then (if inB (st.2.1 19 ((((60 : Int32) * x1) + x2)).toNatClampNeg) 4200 = true then (if inB (st.2.1 1 ((st.2.1 19 ((((60 : Int32) * x1) + x2)).toNatClampNeg)).toNatClampNeg) 4200 = true then (if (st.2.1 0 ((st.2.1 1 ((st.2.1 19 ((((60 : Int32) * x1) + x2)).toNatClampNeg)).toNatClampNeg)).toNatClampNeg) < (2 : Int32) then (some ((1 : Int32), st)) else (if inB (st.2.1 1 ((st.2.1 19 ((((60 : Int32) * x1) + x2)).toNatClampNeg)).toNatClampNeg) 4200 = true then (if (st.2.1 0 ((st.2.1 1 ((st.2.1 19 ((((60 : Int32) * x1) + x2)).toNatClampNeg)).toNatClampNeg)).toNatClampNeg) = (2 : Int32) then ((f_X12_findLeft n st x1 (st.2.1 1 ((st.2.1 19 ((((60 : Int32) * x1) + x2)).toNatClampNeg)).toNatClampNeg)).bind fun q82 => (if 0 ≤ q82.1 then (some ((1 : Int32), q82.2)) else (f_X12_isGoing_88 n q82.2 (st.2.1 1 ((st.2.1 19 ((((60 : Int32) * x1) + x2)).toNatClampNeg)).toNatClampNeg)))) else (f_X12_isGoing_88 n st (st.2.1 1 ((st.2.1 19 ((((60 : Int32) * x1) + x2)).toNatClampNeg)).toNatClampNeg))) else none)) else none) else none) else (some ((0 : Int32), st)))))) else none) else none
set_option maxRecDepth 100000 in
set_option maxHeartbeats 4000000 in
theorem b_X12_isGoing_88 {p : Program} {l : Launch} {e : Env} {s : State} {m : MethodId} {args : Array Value} {below : List Frame} {meth : Method} {c : Code} {D : va_G} {A : Nat → Prop} {ad : Nat → Nat} {cy : Nat → ClassId} {ee : EE} {n : Nat} {res : (Int32 × StT)} (F : CallFix p m c cX12_isGoing 6 s args (Cond.code yX12_isGoing cX12_isGoing 6 (some .boolean) :: Gw) yX12_isGoing.cls) (hr : meth.sig.returnType = (some .boolean)) (hk : meth.locks = false) (K : va_K D vwCl (tyL cy) s) (E : EV ee A s s.heap) (hA : ∀ q, s.heap.size ≤ q → A q) : ∀ (st : StT) (x5 : Int32), f_X12_isGoing_88 n st x5 = some res → ∀ (H : Heap) (locs : List Loc) (ls : Array Slot), ZG D (wM ad cy st) A s H locs → lv_has ls 6 [(0, .ref (ad 0)), (5, .int x5)] → W p l e { frames := 1, cells := 0, slots := 0, locals := 23 } s m args below meth c H locs 0 0 (MQ below (QC D (some (.int res.1)) (wM ad cy res.2) A) args s 0 0 A) (F0 m 88 ls []) := by
  have hx := F.1
  have hb := F.2.1
  intro st x5 hf H locs ls Z hl
  unfold f_X12_isGoing_88 at hf
  refine lv_aload_n hx hb dX12_isGoing_88 rfl (lv_at hl 0 rfl) ?_
  refine gmX12_7 F K Z dX12_isGoing_89 ?_
  refine lv_iload hx hb dX12_isGoing_92 (lv_at hl 1 rfl) ?_
  obtain ⟨i94, hf⟩ := if_some hf
  refine ml1 F K Z i94 dX12_isGoing_94 ?_
  refine lv_iconst (v := 3) hx hb dX12_isGoing_95 (by decide) ?_
  refine lv_icmp_eq (tgt := 110) hx hb dX12_isGoing_96 (by decide) (fun c96 => ?_) (fun c96 => ?_)
  · have hf := if_t c96 hf
    refine lv_iconst (v := 1) hx hb dX12_isGoing_110 (by decide) ?_
    refine lv_goto (tgt := 115) hx hb dX12_isGoing_111 (by decide) ?_
    have hf := Option.some.inj hf
    subst hf
    exact ret_z F hr hk Z rfl dX12_isGoing_115
  have hf := if_f c96 hf
  refine lv_aload_n hx hb dX12_isGoing_99 rfl (lv_at hl 0 rfl) ?_
  refine gmX12_7 F K Z dX12_isGoing_100 ?_
  refine lv_iload hx hb dX12_isGoing_103 (lv_at hl 1 rfl) ?_
  obtain ⟨i105, hf⟩ := if_some hf
  refine ml1 F K Z i105 dX12_isGoing_105 ?_
  refine lv_iconst (v := 4) hx hb dX12_isGoing_106 (by decide) ?_
  refine lv_icmp_ne (tgt := 114) hx hb dX12_isGoing_107 (by decide) (fun c107 => ?_) (fun c107 => ?_)
  · have hf := if_f c107 hf
    refine lv_iconst (v := 0) hx hb dX12_isGoing_114 (by decide) ?_
    have hf := Option.some.inj hf
    subst hf
    exact ret_z F hr hk Z rfl dX12_isGoing_115
  have hf := if_t c107 hf
  refine lv_iconst (v := 1) hx hb dX12_isGoing_110 (by decide) ?_
  refine lv_goto (tgt := 115) hx hb dX12_isGoing_111 (by decide) ?_
  have hf := Option.some.inj hf
  subst hf
  exact ret_z F hr hk Z rfl dX12_isGoing_115
set_option maxRecDepth 100000 in
set_option maxHeartbeats 4000000 in
theorem c_X12_isGoing {l : Launch} {D : va_G} {ad : Nat → Nat} {cy : Nat → ClassId} {ee : EE} {n : Nat} {st : StT} {x1 : Int32} {x2 : Int32} {res : (Int32 × StT)} (hf : f_X12_isGoing n st x1 x2 = some res) : CT l yX12_isGoing cX12_isGoing 6 (some .boolean) 1 23 D cy ee (wM ad cy st) (wM ad cy res.2) [.ref (ad 0), .int x1, .int x2] (some (.int res.1)) := by
  refine CT.of (by decide +kernel) (Nat.le_of_ble_eq_true rfl) ?_
  intro p e s m args below meth c A F hr hk K E hA Z ls hl
  have hl : lv_has ls 6 [(0, .ref (ad 0)), (1, .int x1), (2, .int x2)] := hl
  have hx := F.1
  have hb := F.2.1
  unfold f_X12_isGoing at hf
  refine lv_aload_n hx hb dX12_isGoing_0 rfl (lv_at hl 0 rfl) ?_
  refine gmX12_73 F K Z dX12_isGoing_1 ?_
  refine lv_bipush (v := 60) hx hb dX12_isGoing_4 (by decide) ?_
  refine lv_iload_n hx hb dX12_isGoing_6 rfl (lv_at hl 1 rfl) ?_
  refine lv_imul hx hb dX12_isGoing_7 ?_
  refine lv_iload_n hx hb dX12_isGoing_8 rfl (lv_at hl 2 rfl) ?_
  refine lv_iadd hx hb dX12_isGoing_9 ?_
  obtain ⟨i10, hf⟩ := if_some hf
  refine ml20 F K Z i10 dX12_isGoing_10 ?_
  refine lv_istore_n (lv' := [(3, .int (st.2.1 19 ((((60 : Int32) * x1) + x2)).toNatClampNeg)), (0, .ref (ad 0)), (1, .int x1), (2, .int x2)]) hx hb dX12_isGoing_11 rfl hl (by decide) rfl (fun ls hl => ?_)
  refine lv_aload_n hx hb dX12_isGoing_12 rfl (lv_at hl 1 rfl) ?_
  refine gmX12_7 F K Z dX12_isGoing_13 ?_
  refine lv_iload_n hx hb dX12_isGoing_16 rfl (lv_at hl 0 rfl) ?_
  obtain ⟨i17, hf⟩ := if_some hf
  refine ml1 F K Z i17 dX12_isGoing_17 ?_
  refine lv_istore (lv' := [(4, .int (st.2.1 0 ((st.2.1 19 ((((60 : Int32) * x1) + x2)).toNatClampNeg)).toNatClampNeg)), (3, .int (st.2.1 19 ((((60 : Int32) * x1) + x2)).toNatClampNeg)), (0, .ref (ad 0)), (1, .int x1), (2, .int x2)]) hx hb dX12_isGoing_18 hl (by decide) rfl (fun ls hl => ?_)
  refine lv_iload hx hb dX12_isGoing_20 (lv_at hl 0 rfl) ?_
  refine lv_iconst (v := 1) hx hb dX12_isGoing_22 (by decide) ?_
  refine lv_icmp_eq (tgt := 38) hx hb dX12_isGoing_23 (by decide) (fun c23 => ?_) (fun c23 => ?_)
  · have hf := if_t c23 hf
    refine lv_iconst (v := 1) hx hb dX12_isGoing_38 (by decide) ?_
    have hf := Option.some.inj hf
    subst hf
    exact ret_z F hr hk Z rfl dX12_isGoing_39
  have hf := if_f c23 hf
  refine lv_iload hx hb dX12_isGoing_26 (lv_at hl 0 rfl) ?_
  refine lv_iconst (v := 3) hx hb dX12_isGoing_28 (by decide) ?_
  refine lv_icmp_eq (tgt := 38) hx hb dX12_isGoing_29 (by decide) (fun c29 => ?_) (fun c29 => ?_)
  · have hf := if_t c29 hf
    refine lv_iconst (v := 1) hx hb dX12_isGoing_38 (by decide) ?_
    have hf := Option.some.inj hf
    subst hf
    exact ret_z F hr hk Z rfl dX12_isGoing_39
  have hf := if_f c29 hf
  refine lv_iload hx hb dX12_isGoing_32 (lv_at hl 0 rfl) ?_
  refine lv_iconst (v := 4) hx hb dX12_isGoing_34 (by decide) ?_
  refine lv_icmp_ne (tgt := 40) hx hb dX12_isGoing_35 (by decide) (fun c35 => ?_) (fun c35 => ?_)
  · have hf := if_f c35 hf
    refine lv_iload hx hb dX12_isGoing_40 (lv_at hl 0 rfl) ?_
    refine lv_iconst (v := 5) hx hb dX12_isGoing_42 (by decide) ?_
    refine lv_icmp_eq (tgt := 48) hx hb dX12_isGoing_43 (by decide) (fun c43 => ?_) (fun c43 => ?_)
    · have hf := if_t c43 hf
      refine lv_aload_n hx hb dX12_isGoing_48 rfl (lv_at hl 2 rfl) ?_
      refine gmX12_13 F K Z dX12_isGoing_49 ?_
      refine lv_iload_n hx hb dX12_isGoing_52 rfl (lv_at hl 1 rfl) ?_
      obtain ⟨i53, hf⟩ := if_some hf
      refine ml2 F K Z i53 dX12_isGoing_53 ?_
      refine lv_istore (lv' := [(5, .int (st.2.1 1 ((st.2.1 19 ((((60 : Int32) * x1) + x2)).toNatClampNeg)).toNatClampNeg)), (4, .int (st.2.1 0 ((st.2.1 19 ((((60 : Int32) * x1) + x2)).toNatClampNeg)).toNatClampNeg)), (3, .int (st.2.1 19 ((((60 : Int32) * x1) + x2)).toNatClampNeg)), (0, .ref (ad 0)), (1, .int x1), (2, .int x2)]) hx hb dX12_isGoing_54 hl (by decide) rfl (fun ls hl => ?_)
      refine lv_aload_n hx hb dX12_isGoing_56 rfl (lv_at hl 3 rfl) ?_
      refine gmX12_7 F K Z dX12_isGoing_57 ?_
      refine lv_iload hx hb dX12_isGoing_60 (lv_at hl 0 rfl) ?_
      obtain ⟨i62, hf⟩ := if_some hf
      refine ml1 F K Z i62 dX12_isGoing_62 ?_
      refine lv_iconst (v := 2) hx hb dX12_isGoing_63 (by decide) ?_
      refine lv_icmp_lt (tgt := 110) hx hb dX12_isGoing_64 (by decide) (fun c64 => ?_) (fun c64 => ?_)
      · have hf := if_t c64 hf
        refine lv_iconst (v := 1) hx hb dX12_isGoing_110 (by decide) ?_
        refine lv_goto (tgt := 115) hx hb dX12_isGoing_111 (by decide) ?_
        have hf := Option.some.inj hf
        subst hf
        exact ret_z F hr hk Z rfl dX12_isGoing_115
      have hf := if_f c64 hf
      refine lv_aload_n hx hb dX12_isGoing_67 rfl (lv_at hl 3 rfl) ?_
      refine gmX12_7 F K Z dX12_isGoing_68 ?_
      refine lv_iload hx hb dX12_isGoing_71 (lv_at hl 0 rfl) ?_
      obtain ⟨i73, hf⟩ := if_some hf
      refine ml1 F K Z i73 dX12_isGoing_73 ?_
      refine lv_iconst (v := 2) hx hb dX12_isGoing_74 (by decide) ?_
      refine lv_icmp_ne (tgt := 88) hx hb dX12_isGoing_75 (by decide) (fun c75 => ?_) (fun c75 => ?_)
      · have hf := if_f c75 hf
        exact b_X12_isGoing_88 F hr hk K E hA _ _ hf _ _ _ Z (lv_sub hl [3, 0] rfl)
      have hf := if_t c75 hf
      refine lv_aload_n hx hb dX12_isGoing_78 rfl (lv_at hl 3 rfl) ?_
      refine lv_iload_n hx hb dX12_isGoing_79 rfl (lv_at hl 4 rfl) ?_
      refine lv_iload hx hb dX12_isGoing_80 (lv_at hl 0 rfl) ?_
      obtain ⟨q82, h82, hf⟩ := bind_some hf
      refine krX12_328_X12_findLeft F K E hA Z h82 ⟨Nat.le_of_ble_eq_true rfl, Nat.le_of_ble_eq_true rfl⟩ hl.1 (Nat.le_of_ble_eq_true rfl) dX12_isGoing_82 (fun H locs Z => ?_)
      refine lv_if_ge (tgt := 110) hx hb dX12_isGoing_85 (by decide) (fun c85 => ?_) (fun c85 => ?_)
      · have hf := if_t c85 hf
        refine lv_iconst (v := 1) hx hb dX12_isGoing_110 (by decide) ?_
        refine lv_goto (tgt := 115) hx hb dX12_isGoing_111 (by decide) ?_
        have hf := Option.some.inj hf
        subst hf
        exact ret_z F hr hk Z rfl dX12_isGoing_115
      have hf := if_f c85 hf
      exact b_X12_isGoing_88 F hr hk K E hA _ _ hf _ _ _ Z (lv_sub hl [3, 0] rfl)
    have hf := if_f c43 hf
    refine lv_iconst (v := 0) hx hb dX12_isGoing_46 (by decide) ?_
    have hf := Option.some.inj hf
    subst hf
    exact ret_z F hr hk Z rfl dX12_isGoing_47
  have hf := if_t c35 hf
  refine lv_iconst (v := 1) hx hb dX12_isGoing_38 (by decide) ?_
  have hf := Option.some.inj hf
  subst hf
  exact ret_z F hr hk Z rfl dX12_isGoing_39
def f_X12_isNeeding (n : Nat) (st : StT) (x1 : Int32) : Option (Int32 × StT) := if inB x1 4200 = true then (if (st.2.1 0 (x1).toNatClampNeg) = (5 : Int32) then (if inB x1 4200 = true then (if inB (st.2.1 1 (x1).toNatClampNeg) 4200 = true then (if (st.2.1 0 ((st.2.1 1 (x1).toNatClampNeg)).toNatClampNeg) = (5 : Int32) then (some ((1 : Int32), st)) else (some ((0 : Int32), st))) else none) else none) else (some ((0 : Int32), st))) else none
theorem wd1136 : Cond.fieldLink RX12 94 "WorldProverModel" "tried" "[I" ∈ Gw := gT6 (List.mem_of_getElem? (i := 103) rfl) rfl
theorem wd1137 : Cond.fieldLink RX12 100 "WorldProverModel" "world" "[I" ∈ Gw := gT6 (List.mem_of_getElem? (i := 105) rfl) rfl
theorem wd1138 : Cond.fieldLink RX12 388 "WorldProverModel" "cameWorld" "I" ∈ Gw := gT6 (List.mem_of_getElem? (i := 113) rfl) rfl
section
variable {p : Program} {l : Launch} {e : Env} {R : Room} {s : State} {m : MethodId} {args : Array Value} {below : List Frame} {meth : Method} {c : Code} {H : Heap} {locs : List Loc} {Q : State → Prop}
variable {cc : ByteArray} {nL pc : Nat} {ls : Array Slot} {rest : List Value} {D : va_G} {A : Nat → Prop} {cw : Cond} {ad : Nat → Nat} {cy : Nat → ClassId} {ee : EE} {st : StT} {own : String}
theorem ml24 {i : Int32} (F : CallFix p m c cc nL s args (cw :: Gw) own) (K : va_K D vwCl (tyL cy) s) (Z : ZG D (wM ad cy st) A s H locs) (hi : inB i 201 = true) (hd : decode cc pc = .ok (.iaload, 1)) (kk : W p l e R s m args below meth c H locs 0 0 Q (F0 m (pc + 1) ls (.int (st.2.1 23 i.toNatClampNeg) :: rest))) : W p l e R s m args below meth c H locs 0 0 Q (F0 m pc ls (.int i :: .ref (ad 24) :: rest)) :=
  va_iald F.1 F.2.1 K Z.1 24 1 rfl rfl (inB_vp hi) hd kk
theorem gmX12_94 (F : CallFix p m c cc nL s args (cw :: Gw) RX12) (K : va_K D vwCl (tyL cy) s) (Z : ZG D (wM ad cy st) A s H locs) (hd : decode cc pc = .ok (.getfield 94, 3)) (kk : W p l e R s m args below meth c H locs 0 0 Q (F0 m (pc + 3) ls (.ref (ad 27) :: rest))) : W p l e R s m args below meth c H locs 0 0 Q (F0 m pc ls (.ref (ad 0) :: rest)) :=
  va_get (D := D) (ci := 12) (C := RX12) (T := TX12) (N := 98) F.1 F.2.1 F.2.2.2.2 (fun w h => List.mem_cons_of_mem _ (inG_X12 w h)) F.2.2.2.1 K Z.1 0 rfl rfl 45 (by decide) (F.2.2.2.2 _ (List.mem_cons_of_mem _ wd1136)) (fun _ h => h) rfl hd kk
theorem ms27 {i : Int32} {v : Int32} (F : CallFix p m c cc nL s args (cw :: Gw) own) (K : va_K D vwCl (tyL cy) s) (Z : ZG D (wM ad cy st) A s H locs) (hi : inB i 201 = true) (hd : decode cc pc = .ok (.iastore, 1)) (kk : ∀ (H1 : Heap) (locs1 : List Loc), ZG D (wM ad cy (uA st 26 i v)) A s H1 locs1 → W p l e R s m args below meth c H1 locs1 0 0 Q (F0 m (pc + 1) ls rest)) : W p l e R s m args below meth c H locs 0 0 Q (F0 m pc ls (.int v :: .int i :: .ref (ad 27) :: rest)) :=
  va_iast F.1 F.2.1 K Z.1 Z.2.1 Z.2.2 27 1 rfl rfl (inB_vp hi) hd (fun H1 locs1 hP hD hS => kk H1 locs1 ⟨hP, hD, hS⟩)
theorem gmX12_100 (F : CallFix p m c cc nL s args (cw :: Gw) RX12) (K : va_K D vwCl (tyL cy) s) (Z : ZG D (wM ad cy st) A s H locs) (hd : decode cc pc = .ok (.getfield 100, 3)) (kk : W p l e R s m args below meth c H locs 0 0 Q (F0 m (pc + 3) ls (.ref (ad 29) :: rest))) : W p l e R s m args below meth c H locs 0 0 Q (F0 m pc ls (.ref (ad 0) :: rest)) :=
  va_get (D := D) (ci := 12) (C := RX12) (T := TX12) (N := 98) F.1 F.2.1 F.2.2.2.2 (fun w h => List.mem_cons_of_mem _ (inG_X12 w h)) F.2.2.2.1 K Z.1 0 rfl rfl 47 (by decide) (F.2.2.2.2 _ (List.mem_cons_of_mem _ wd1137)) (fun _ h => h) rfl hd kk
theorem ml29 {i : Int32} (F : CallFix p m c cc nL s args (cw :: Gw) own) (K : va_K D vwCl (tyL cy) s) (Z : ZG D (wM ad cy st) A s H locs) (hi : inB i 201 = true) (hd : decode cc pc = .ok (.iaload, 1)) (kk : W p l e R s m args below meth c H locs 0 0 Q (F0 m (pc + 1) ls (.int (st.2.1 28 i.toNatClampNeg) :: rest))) : W p l e R s m args below meth c H locs 0 0 Q (F0 m pc ls (.int i :: .ref (ad 29) :: rest)) :=
  va_iald F.1 F.2.1 K Z.1 29 1 rfl rfl (inB_vp hi) hd kk
theorem ms29 {i : Int32} {v : Int32} (F : CallFix p m c cc nL s args (cw :: Gw) own) (K : va_K D vwCl (tyL cy) s) (Z : ZG D (wM ad cy st) A s H locs) (hi : inB i 201 = true) (hd : decode cc pc = .ok (.iastore, 1)) (kk : ∀ (H1 : Heap) (locs1 : List Loc), ZG D (wM ad cy (uA st 28 i v)) A s H1 locs1 → W p l e R s m args below meth c H1 locs1 0 0 Q (F0 m (pc + 1) ls rest)) : W p l e R s m args below meth c H locs 0 0 Q (F0 m pc ls (.int v :: .int i :: .ref (ad 29) :: rest)) :=
  va_iast F.1 F.2.1 K Z.1 Z.2.1 Z.2.2 29 1 rfl rfl (inB_vp hi) hd (fun H1 locs1 hP hD hS => kk H1 locs1 ⟨hP, hD, hS⟩)
theorem pmX12_388 {v : Int32} (F : CallFix p m c cc nL s args (cw :: Gw) RX12) (K : va_K D vwCl (tyL cy) s) (Z : ZG D (wM ad cy st) A s H locs) (hd : decode cc pc = .ok (.putfield 388, 3)) (kk : ∀ (H1 : Heap) (locs1 : List Loc), ZG D (wM ad cy (uF st 26 v)) A s H1 locs1 → W p l e R s m args below meth c H1 locs1 0 0 Q (F0 m (pc + 3) ls rest)) : W p l e R s m args below meth c H locs 0 0 Q (F0 m pc ls (.int v :: .ref (ad 0) :: rest)) :=
  va_put (D := D) (ci := 12) (v := .int v) (ty := .int) (C := RX12) (T := TX12) (N := 98) F.1 F.2.1 F.2.2.2.2 (fun w h => List.mem_cons_of_mem _ (inG_X12 w h)) tyX12 tyX12_ok nmX12 F.2.2.2.1 K Z.1 Z.2.1 Z.2.2 0 rfl rfl 55 (by decide) (F.2.2.2.2 _ (List.mem_cons_of_mem _ wd1138)) (fun _ h => h) rfl (by decide +kernel) rfl rfl (Nat.le_of_ble_eq_true rfl) hd (fun H1 locs1 hP hD hS => kk H1 locs1 ⟨hP, hD, hS⟩)
end
set_option maxRecDepth 100000 in
set_option maxHeartbeats 4000000 in
theorem c_X12_isNeeding {l : Launch} {D : va_G} {ad : Nat → Nat} {cy : Nat → ClassId} {ee : EE} {n : Nat} {st : StT} {x1 : Int32} {res : (Int32 × StT)} (hf : f_X12_isNeeding n st x1 = some res) : CT l yX12_isNeeding cX12_isNeeding 2 (some .boolean) 0 0 D cy ee (wM ad cy st) (wM ad cy res.2) [.ref (ad 0), .int x1] (some (.int res.1)) := by
  refine CT.of (by decide +kernel) (Nat.le_of_ble_eq_true rfl) ?_
  intro p e s m args below meth c A F hr hk K E hA Z ls hl
  have hl : lv_has ls 2 [(0, .ref (ad 0)), (1, .int x1)] := hl
  have hx := F.1
  have hb := F.2.1
  unfold f_X12_isNeeding at hf
  refine lv_aload_n hx hb dX12_isNeeding_0 rfl (lv_at hl 0 rfl) ?_
  refine gmX12_7 F K Z dX12_isNeeding_1 ?_
  refine lv_iload_n hx hb dX12_isNeeding_4 rfl (lv_at hl 1 rfl) ?_
  obtain ⟨i5, hf⟩ := if_some hf
  refine ml1 F K Z i5 dX12_isNeeding_5 ?_
  refine lv_iconst (v := 5) hx hb dX12_isNeeding_6 (by decide) ?_
  refine lv_icmp_ne (tgt := 29) hx hb dX12_isNeeding_7 (by decide) (fun c7 => ?_) (fun c7 => ?_)
  · have hf := if_f c7 hf
    refine lv_iconst (v := 0) hx hb dX12_isNeeding_29 (by decide) ?_
    have hf := Option.some.inj hf
    subst hf
    exact ret_z F hr hk Z rfl dX12_isNeeding_30
  have hf := if_t c7 hf
  refine lv_aload_n hx hb dX12_isNeeding_10 rfl (lv_at hl 0 rfl) ?_
  refine gmX12_7 F K Z dX12_isNeeding_11 ?_
  refine lv_aload_n hx hb dX12_isNeeding_14 rfl (lv_at hl 0 rfl) ?_
  refine gmX12_13 F K Z dX12_isNeeding_15 ?_
  refine lv_iload_n hx hb dX12_isNeeding_18 rfl (lv_at hl 1 rfl) ?_
  obtain ⟨i19, hf⟩ := if_some hf
  refine ml2 F K Z i19 dX12_isNeeding_19 ?_
  obtain ⟨i20, hf⟩ := if_some hf
  refine ml1 F K Z i20 dX12_isNeeding_20 ?_
  refine lv_iconst (v := 5) hx hb dX12_isNeeding_21 (by decide) ?_
  refine lv_icmp_ne (tgt := 29) hx hb dX12_isNeeding_22 (by decide) (fun c22 => ?_) (fun c22 => ?_)
  · have hf := if_f c22 hf
    refine lv_iconst (v := 0) hx hb dX12_isNeeding_29 (by decide) ?_
    have hf := Option.some.inj hf
    subst hf
    exact ret_z F hr hk Z rfl dX12_isNeeding_30
  have hf := if_t c22 hf
  refine lv_iconst (v := 1) hx hb dX12_isNeeding_25 (by decide) ?_
  refine lv_goto (tgt := 30) hx hb dX12_isNeeding_26 (by decide) ?_
  have hf := Option.some.inj hf
  subst hf
  exact ret_z F hr hk Z rfl dX12_isNeeding_30
def f_X12_needs_272 (n : Nat) (st : StT) (y0 : Int32) : Option (Int32 × StT) := if y0 = 0 then (some ((3 : Int32), st)) else ((f_X12_begin n st).bind fun q280 => (some (q280.1, q280.2)))
def f_X12_needs_66 (n : Nat) (st : StT) (x1 : Int32) : Option (Int32 × StT) := if inB x1 201 = true then (some ((0 : Int32), (uF st 26 (st.2.1 28 (x1).toNatClampNeg)))) else none
def f_X12_needs_36 (n : Nat) (st : StT) (x1 : Int32) (x3 : Int32) : Option (Int32 × StT) := if inB x1 201 = true then (if x3 = (st.2.1 22 (x1).toNatClampNeg) then (if inB x1 201 = true then (if 0 ≤ (st.2.1 28 (x1).toNatClampNeg) then (f_X12_needs_66 n st x1) else ((f_X12_newWorld n st x1).bind fun q62 => (if inB x1 201 = true then (f_X12_needs_66 n (uA q62.2 28 x1 q62.1) x1) else none))) else none) else (if inB x1 201 = true then (if inB (((60 : Int32) * x1) + x3) 12060 = true then (if inB (st.2.1 19 ((((60 : Int32) * x1) + x3)).toNatClampNeg) 4200 = true then (if inB (st.2.1 1 ((st.2.1 19 ((((60 : Int32) * x1) + x3)).toNatClampNeg)).toNatClampNeg) 4200 = true then (if inB (st.2.1 19 ((((60 : Int32) * x1) + x3)).toNatClampNeg) 4200 = true then (if inB (st.2.1 1 ((st.2.1 19 ((((60 : Int32) * x1) + x3)).toNatClampNeg)).toNatClampNeg) 4200 = true then (if inB x1 201 = true then (if inB x1 201 = true then ((f_X12_within n (uA (uA st 26 x1 x3) 25 x1 (9 : Int32)) x1 x3 (st.2.1 2 ((st.2.1 1 ((st.2.1 19 ((((60 : Int32) * x1) + x3)).toNatClampNeg)).toNatClampNeg)).toNatClampNeg) ((st.2.1 24 (x1).toNatClampNeg) + (1 : Int32))).bind fun q151 => ((f_X12_termOf n q151 x1 x3).bind fun q162 => ((f_X12_term n q162.2 (77 : Int32) (st.2.1 24 (x1).toNatClampNeg) q162.1 (-1 : Int32) (-1 : Int32)).bind fun q167 => (if inB (st.2.1 19 ((((60 : Int32) * x1) + x3)).toNatClampNeg) 4200 = true then ((f_X12_formulaOf n q167.2 (5 : Int32) (st.2.1 2 ((st.2.1 1 ((st.2.1 19 ((((60 : Int32) * x1) + x3)).toNatClampNeg)).toNatClampNeg)).toNatClampNeg) (q167.2.2.1 2 ((st.2.1 19 ((((60 : Int32) * x1) + x3)).toNatClampNeg)).toNatClampNeg)).bind fun q183 => ((f_X12_hypothesis n q183.2 (st.2.1 24 (x1).toNatClampNeg)).bind fun q202 => ((f_X12_term n q202.2 (76 : Int32) (st.2.1 1 ((st.2.1 1 ((st.2.1 19 ((((60 : Int32) * x1) + x3)).toNatClampNeg)).toNatClampNeg)).toNatClampNeg) q202.1 (-1 : Int32) (-1 : Int32)).bind fun q207 => ((f_X12_term n q207.2 (65 : Int32) (0 : Int32) q167.1 q207.1 (-1 : Int32)).bind fun q211 => ((f_X12_term n q211.2 (76 : Int32) (st.2.1 2 ((st.2.1 1 ((st.2.1 19 ((((60 : Int32) * x1) + x3)).toNatClampNeg)).toNatClampNeg)).toNatClampNeg) q211.1 (-1 : Int32) (-1 : Int32)).bind fun q235 => ((f_X12_comes n q235.2 (x1 + (1 : Int32)) q183.1 q235.1 (st.2.1 24 (x1).toNatClampNeg)).bind fun q240 => (if q240.1 = 0 then (f_X12_needs_272 n q240.2 (0 : Int32)) else ((f_X12_hypothesis n q240.2 (st.2.1 24 (x1).toNatClampNeg)).bind fun q254 => ((f_X12_comes n q254.2 (x1 + (1 : Int32)) (st.2.1 1 ((st.2.1 1 ((st.2.1 19 ((((60 : Int32) * x1) + x3)).toNatClampNeg)).toNatClampNeg)).toNatClampNeg) q254.1 ((st.2.1 24 (x1).toNatClampNeg) + (1 : Int32))).bind fun q261 => (if q261.1 = 0 then (f_X12_needs_272 n q261.2 (0 : Int32)) else (f_X12_needs_272 n q261.2 (1 : Int32)))))))))))) else none)))) else none) else none) else none) else none) else none) else none) else none) else none)) else none
def f_X12_needs_2 (n : Nat) : Nat → StT → Int32 → Int32 → Option (Int32 × StT)
  | 0, _, _, _ => none
  | k + 1, st, x1, x3 => if inB x1 201 = true then (if (st.2.1 22 (x1).toNatClampNeg) ≤ x3 then (f_X12_needs_36 n st x1 x3) else (if inB (((60 : Int32) * x1) + x3) 12060 = true then ((f_X12_isNeeding n st (st.2.1 19 ((((60 : Int32) * x1) + x3)).toNatClampNeg)).bind fun q24 => (if q24.1 = 0 then (f_X12_needs_2 n k q24.2 x1 (x3 + (1 : Int32))) else (f_X12_needs_36 n q24.2 x1 x3))) else none)) else none
def f_X12_needs (n : Nat) (st : StT) (x1 : Int32) (x2 : Int32) : Option (Int32 × StT) := f_X12_needs_2 n n st x1 x2
theorem wd1139 : Cond.methodLink RX12 382 yX12_isNeeding ∈ Gw := gT8 (List.mem_of_getElem? (i := 145) rfl) rfl
theorem wd1140 : Cond.code yX12_isNeeding prog_14_method_38_code 2 (some .boolean) ∈ Gw := gT8 (List.mem_of_getElem? (i := 148) rfl) rfl
theorem wd1141 : Cond.instanceMethod yX12_isNeeding ∈ Gw := gT8 (List.mem_of_getElem? (i := 147) rfl) rfl
theorem wd1142 : Cond.selects RX12 yX12_isNeeding yX12_isNeeding ∈ Gw := gP8 (q := (yX12_isNeeding, 98)) (List.mem_of_getElem? (i := 5) rfl)
theorem wd1143 : Cond.methodLink RX12 363 yX12_comes ∈ Gw := gT8 (List.mem_of_getElem? (i := 97) rfl) rfl
theorem wd1144 : Cond.code yX12_comes prog_14_method_28_code 6 (some .boolean) ∈ Gw := gT8 (List.mem_of_getElem? (i := 100) rfl) rfl
theorem wd1145 : Cond.instanceMethod yX12_comes ∈ Gw := gT8 (List.mem_of_getElem? (i := 99) rfl) rfl
theorem wd1146 : Cond.selects RX12 yX12_comes yX12_comes ∈ Gw := gP7 (q := (yX12_comes, 98)) (List.mem_of_getElem? (i := 9) rfl)
theorem wd1147 : Cond.methodLink RX12 360 yX12_hypothesis ∈ Gw := gT8 (List.mem_of_getElem? (i := 89) rfl) rfl
theorem wd1148 : Cond.code yX12_hypothesis prog_14_method_24_code 2 (some .int) ∈ Gw := gT8 (List.mem_of_getElem? (i := 92) rfl) rfl
theorem wd1149 : Cond.instanceMethod yX12_hypothesis ∈ Gw := gT8 (List.mem_of_getElem? (i := 91) rfl) rfl
theorem wd1150 : Cond.selects RX12 yX12_hypothesis yX12_hypothesis ∈ Gw := gP7 (q := (yX12_hypothesis, 98)) (List.mem_of_getElem? (i := 7) rfl)
theorem wd1151 : Cond.methodLink RX12 350 yX12_termOf ∈ Gw := gT8 (List.mem_of_getElem? (i := 117) rfl) rfl
theorem wd1152 : Cond.code yX12_termOf prog_14_method_30_code 4 (some .int) ∈ Gw := gT8 (List.mem_of_getElem? (i := 120) rfl) rfl
theorem wd1153 : Cond.instanceMethod yX12_termOf ∈ Gw := gT8 (List.mem_of_getElem? (i := 119) rfl) rfl
theorem wd1154 : Cond.selects RX12 yX12_termOf yX12_termOf ∈ Gw := gP7 (q := (yX12_termOf, 98)) (List.mem_of_getElem? (i := 14) rfl)
theorem wd1155 : Cond.methodLink RX12 356 yX12_within ∈ Gw := gT8 (List.mem_of_getElem? (i := 125) rfl) rfl
theorem wd1156 : Cond.code yX12_within prog_14_method_31_code 8 none ∈ Gw := gT8 (List.mem_of_getElem? (i := 128) rfl) rfl
theorem wd1157 : Cond.instanceMethod yX12_within ∈ Gw := gT8 (List.mem_of_getElem? (i := 127) rfl) rfl
theorem wd1158 : Cond.selects RX12 yX12_within yX12_within ∈ Gw := gP8 (q := (yX12_within, 98)) (List.mem_of_getElem? (i := 0) rfl)
theorem wd1159 : Cond.methodLink RX12 385 yX12_newWorld ∈ Gw := gT8 (List.mem_of_getElem? (i := 149) rfl) rfl
theorem wd1160 : Cond.code yX12_newWorld prog_14_method_25_code 5 (some .int) ∈ Gw := gT8 (List.mem_of_getElem? (i := 152) rfl) rfl
theorem wd1161 : Cond.instanceMethod yX12_newWorld ∈ Gw := gT8 (List.mem_of_getElem? (i := 151) rfl) rfl
theorem wd1162 : Cond.selects RX12 yX12_newWorld yX12_newWorld ∈ Gw := gP8 (q := (yX12_newWorld, 98)) (List.mem_of_getElem? (i := 6) rfl)
theorem wd1163 : Cond.methodLink RX12 367 yX12_begin ∈ Gw := gT8 (List.mem_of_getElem? (i := 109) rfl) rfl
theorem wd1164 : Cond.code yX12_begin prog_14_method_32_code 1 (some .int) ∈ Gw := gT8 (List.mem_of_getElem? (i := 112) rfl) rfl
theorem wd1165 : Cond.instanceMethod yX12_begin ∈ Gw := gT8 (List.mem_of_getElem? (i := 111) rfl) rfl
theorem wd1166 : Cond.selects RX12 yX12_begin yX12_begin ∈ Gw := gP7 (q := (yX12_begin, 98)) (List.mem_of_getElem? (i := 12) rfl)
section
variable {p : Program} {l : Launch} {e : Env} {R : Room} {s : State} {m : MethodId} {args : Array Value} {below : List Frame} {meth : Method} {c : Code} {H : Heap} {locs : List Loc} {Q : State → Prop}
variable {cc : ByteArray} {nL pc : Nat} {ls : Array Slot} {rest : List Value} {D : va_G} {A : Nat → Prop} {cw : Cond} {ad : Nat → Nat} {cy : Nat → ClassId} {ee : EE} {st : StT} {own : String}
theorem krX12_382_X12_isNeeding {n : Nat} {a0 : Int32} {q : (Int32 × StT)} (F : CallFix p m c cc nL s args (cw :: Gw) RX12) (K : va_K D vwCl (tyL cy) s) (E : EV ee A s s.heap) (hA : ∀ q, s.heap.size ≤ q → A q) (Z : ZG D (wM ad cy st) A s H locs) (hf : f_X12_isNeeding n st a0 = some q) (hR : 1 ≤ R.frames ∧ 21 ≤ R.locals) (hl : ls.size = nL) (hst : (rest.map fun v => v.category).sum ≤ 8) (hd : decode cc pc = .ok (.invokevirtual 382, 3)) (kk : ∀ (H1 : Heap) (locs1 : List Loc), ZG D (wM ad cy q.2) A s H1 locs1 → W p l e R s m args below meth c H1 locs1 0 0 Q (F0 m (pc + 3) ls (.int q.1 :: rest))) : W p l e R s m args below meth c H locs 0 0 Q (F0 m pc ls (.int a0 :: .ref (ad 0) :: rest)) :=
  call_V (q := (RX12, TX12, 98)) (n := 1) (As := [.int a0]) (rv := some (.int q.1)) 0 12 F K E hA Z (c_X12_isNeeding (l := l) (D := D) (ad := ad) (cy := cy) (ee := ee) hf) ⟨wd1140, wd1139, wd1141, wd1142, wd1008⟩ (by decide +kernel) rfl rfl hR rfl hl hst hd kk
theorem krX12_363_X12_comes {n : Nat} {a0 : Int32} {a1 : Int32} {a2 : Int32} {a3 : Int32} {q : (Int32 × StT)} (F : CallFix p m c cc nL s args (cw :: Gw) RX12) (K : va_K D vwCl (tyL cy) s) (E : EV ee A s s.heap) (hA : ∀ q, s.heap.size ≤ q → A q) (Z : ZG D (wM ad cy st) A s H locs) (hf : f_X12_comes n st a0 a1 a2 a3 = some q) (hR : 2 ≤ R.frames ∧ 48 ≤ R.locals) (hl : ls.size = nL) (hst : (rest.map fun v => v.category).sum ≤ 8) (hd : decode cc pc = .ok (.invokevirtual 363, 3)) (kk : ∀ (H1 : Heap) (locs1 : List Loc), ZG D (wM ad cy q.2) A s H1 locs1 → W p l e R s m args below meth c H1 locs1 0 0 Q (F0 m (pc + 3) ls (.int q.1 :: rest))) : W p l e R s m args below meth c H locs 0 0 Q (F0 m pc ls (.int a3 :: .int a2 :: .int a1 :: .int a0 :: .ref (ad 0) :: rest)) :=
  call_V (q := (RX12, TX12, 98)) (n := 4) (As := [.int a0, .int a1, .int a2, .int a3]) (rv := some (.int q.1)) 0 12 F K E hA Z (c_X12_comes (l := l) (D := D) (ad := ad) (cy := cy) (ee := ee) hf) ⟨wd1144, wd1143, wd1145, wd1146, wd1008⟩ (by decide +kernel) rfl rfl hR rfl hl hst hd kk
theorem krX12_360_X12_hypothesis {n : Nat} {a0 : Int32} {q : (Int32 × StT)} (F : CallFix p m c cc nL s args (cw :: Gw) RX12) (K : va_K D vwCl (tyL cy) s) (E : EV ee A s s.heap) (hA : ∀ q, s.heap.size ≤ q → A q) (Z : ZG D (wM ad cy st) A s H locs) (hf : f_X12_hypothesis n st a0 = some q) (hR : 2 ≤ R.frames ∧ 46 ≤ R.locals) (hl : ls.size = nL) (hst : (rest.map fun v => v.category).sum ≤ 8) (hd : decode cc pc = .ok (.invokevirtual 360, 3)) (kk : ∀ (H1 : Heap) (locs1 : List Loc), ZG D (wM ad cy q.2) A s H1 locs1 → W p l e R s m args below meth c H1 locs1 0 0 Q (F0 m (pc + 3) ls (.int q.1 :: rest))) : W p l e R s m args below meth c H locs 0 0 Q (F0 m pc ls (.int a0 :: .ref (ad 0) :: rest)) :=
  call_V (q := (RX12, TX12, 98)) (n := 1) (As := [.int a0]) (rv := some (.int q.1)) 0 12 F K E hA Z (c_X12_hypothesis (l := l) (D := D) (ad := ad) (cy := cy) (ee := ee) hf) ⟨wd1148, wd1147, wd1149, wd1150, wd1008⟩ (by decide +kernel) rfl rfl hR rfl hl hst hd kk
theorem krX12_350_X12_termOf {n : Nat} {a0 : Int32} {a1 : Int32} {q : (Int32 × StT)} (F : CallFix p m c cc nL s args (cw :: Gw) RX12) (K : va_K D vwCl (tyL cy) s) (E : EV ee A s s.heap) (hA : ∀ q, s.heap.size ≤ q → A q) (Z : ZG D (wM ad cy st) A s H locs) (hf : f_X12_termOf n st a0 a1 = some q) (hR : 2 ≤ R.frames ∧ 48 ≤ R.locals) (hl : ls.size = nL) (hst : (rest.map fun v => v.category).sum ≤ 8) (hd : decode cc pc = .ok (.invokevirtual 350, 3)) (kk : ∀ (H1 : Heap) (locs1 : List Loc), ZG D (wM ad cy q.2) A s H1 locs1 → W p l e R s m args below meth c H1 locs1 0 0 Q (F0 m (pc + 3) ls (.int q.1 :: rest))) : W p l e R s m args below meth c H locs 0 0 Q (F0 m pc ls (.int a1 :: .int a0 :: .ref (ad 0) :: rest)) :=
  call_V (q := (RX12, TX12, 98)) (n := 2) (As := [.int a0, .int a1]) (rv := some (.int q.1)) 0 12 F K E hA Z (c_X12_termOf (l := l) (D := D) (ad := ad) (cy := cy) (ee := ee) hf) ⟨wd1152, wd1151, wd1153, wd1154, wd1008⟩ (by decide +kernel) rfl rfl hR rfl hl hst hd kk
theorem krX12_356_X12_within {n : Nat} {a0 : Int32} {a1 : Int32} {a2 : Int32} {a3 : Int32} {q : StT} (F : CallFix p m c cc nL s args (cw :: Gw) RX12) (K : va_K D vwCl (tyL cy) s) (E : EV ee A s s.heap) (hA : ∀ q, s.heap.size ≤ q → A q) (Z : ZG D (wM ad cy st) A s H locs) (hf : f_X12_within n st a0 a1 a2 a3 = some q) (hR : 1 ≤ R.frames ∧ 27 ≤ R.locals) (hl : ls.size = nL) (hst : (rest.map fun v => v.category).sum ≤ 8) (hd : decode cc pc = .ok (.invokevirtual 356, 3)) (kk : ∀ (H1 : Heap) (locs1 : List Loc), ZG D (wM ad cy q) A s H1 locs1 → W p l e R s m args below meth c H1 locs1 0 0 Q (F0 m (pc + 3) ls (rest))) : W p l e R s m args below meth c H locs 0 0 Q (F0 m pc ls (.int a3 :: .int a2 :: .int a1 :: .int a0 :: .ref (ad 0) :: rest)) :=
  call_V (q := (RX12, TX12, 98)) (n := 4) (As := [.int a0, .int a1, .int a2, .int a3]) (rv := none) 0 12 F K E hA Z (c_X12_within (l := l) (D := D) (ad := ad) (cy := cy) (ee := ee) hf) ⟨wd1156, wd1155, wd1157, wd1158, wd1008⟩ (by decide +kernel) rfl rfl hR rfl hl hst hd kk
theorem krX12_385_X12_newWorld {n : Nat} {a0 : Int32} {q : (Int32 × StT)} (F : CallFix p m c cc nL s args (cw :: Gw) RX12) (K : va_K D vwCl (tyL cy) s) (E : EV ee A s s.heap) (hA : ∀ q, s.heap.size ≤ q → A q) (Z : ZG D (wM ad cy st) A s H locs) (hf : f_X12_newWorld n st a0 = some q) (hR : 1 ≤ R.frames ∧ 24 ≤ R.locals) (hl : ls.size = nL) (hst : (rest.map fun v => v.category).sum ≤ 8) (hd : decode cc pc = .ok (.invokevirtual 385, 3)) (kk : ∀ (H1 : Heap) (locs1 : List Loc), ZG D (wM ad cy q.2) A s H1 locs1 → W p l e R s m args below meth c H1 locs1 0 0 Q (F0 m (pc + 3) ls (.int q.1 :: rest))) : W p l e R s m args below meth c H locs 0 0 Q (F0 m pc ls (.int a0 :: .ref (ad 0) :: rest)) :=
  call_V (q := (RX12, TX12, 98)) (n := 1) (As := [.int a0]) (rv := some (.int q.1)) 0 12 F K E hA Z (c_X12_newWorld (l := l) (D := D) (ad := ad) (cy := cy) (ee := ee) hf) ⟨wd1160, wd1159, wd1161, wd1162, wd1008⟩ (by decide +kernel) rfl rfl hR rfl hl hst hd kk
theorem krX12_367_X12_begin {n : Nat}  {q : (Int32 × StT)} (F : CallFix p m c cc nL s args (cw :: Gw) RX12) (K : va_K D vwCl (tyL cy) s) (E : EV ee A s s.heap) (hA : ∀ q, s.heap.size ≤ q → A q) (Z : ZG D (wM ad cy st) A s H locs) (hf : f_X12_begin n st = some q) (hR : 1 ≤ R.frames ∧ 20 ≤ R.locals) (hl : ls.size = nL) (hst : (rest.map fun v => v.category).sum ≤ 8) (hd : decode cc pc = .ok (.invokevirtual 367, 3)) (kk : ∀ (H1 : Heap) (locs1 : List Loc), ZG D (wM ad cy q.2) A s H1 locs1 → W p l e R s m args below meth c H1 locs1 0 0 Q (F0 m (pc + 3) ls (.int q.1 :: rest))) : W p l e R s m args below meth c H locs 0 0 Q (F0 m pc ls (.ref (ad 0) :: rest)) :=
  call_V (q := (RX12, TX12, 98)) (n := 0) (As := []) (rv := some (.int q.1)) 0 12 F K E hA Z (c_X12_begin (l := l) (D := D) (ad := ad) (cy := cy) (ee := ee) hf) ⟨wd1164, wd1163, wd1165, wd1166, wd1008⟩ (by decide +kernel) rfl rfl hR rfl hl hst hd kk
end
set_option maxRecDepth 100000 in
set_option maxHeartbeats 4000000 in
theorem b_X12_needs_272 {p : Program} {l : Launch} {e : Env} {s : State} {m : MethodId} {args : Array Value} {below : List Frame} {meth : Method} {c : Code} {D : va_G} {A : Nat → Prop} {ad : Nat → Nat} {cy : Nat → ClassId} {ee : EE} {n : Nat} {res : (Int32 × StT)} (F : CallFix p m c cX12_needs 13 s args (Cond.code yX12_needs cX12_needs 13 (some .int) :: Gw) yX12_needs.cls) (hr : meth.sig.returnType = (some .int)) (hk : meth.locks = false) (K : va_K D vwCl (tyL cy) s) (E : EV ee A s s.heap) (hA : ∀ q, s.heap.size ≤ q → A q) : ∀ (st : StT) (y0 : Int32), f_X12_needs_272 n st y0 = some res → ∀ (H : Heap) (locs : List Loc) (ls : Array Slot), ZG D (wM ad cy st) A s H locs → lv_has ls 13 [(0, .ref (ad 0))] → W p l e { frames := 2, cells := 0, slots := 0, locals := 48 } s m args below meth c H locs 0 0 (MQ below (QC D (some (.int res.1)) (wM ad cy res.2) A) args s 0 0 A) (F0 m 272 ls [.int y0]) := by
  have hx := F.1
  have hb := F.2.1
  intro st y0 hf H locs ls Z hl
  unfold f_X12_needs_272 at hf
  refine lv_istore (lv' := [(12, .int y0), (0, .ref (ad 0))]) hx hb dX12_needs_272 hl (by decide) rfl (fun ls hl => ?_)
  refine lv_iload hx hb dX12_needs_274 (lv_at hl 0 rfl) ?_
  refine lv_if_eq (tgt := 286) hx hb dX12_needs_276 (by decide) (fun c276 => ?_) (fun c276 => ?_)
  · have hf := if_t c276 hf
    refine lv_iconst (v := 3) hx hb dX12_needs_286 (by decide) ?_
    have hf := Option.some.inj hf
    subst hf
    exact ret_i F hr hk Z dX12_needs_287
  have hf := if_f c276 hf
  refine lv_aload_n hx hb dX12_needs_279 rfl (lv_at hl 1 rfl) ?_
  obtain ⟨q280, h280, hf⟩ := bind_some hf
  refine krX12_367_X12_begin F K E hA Z h280 ⟨Nat.le_of_ble_eq_true rfl, Nat.le_of_ble_eq_true rfl⟩ hl.1 (Nat.le_of_ble_eq_true rfl) dX12_needs_280 (fun H locs Z => ?_)
  refine lv_goto (tgt := 287) hx hb dX12_needs_283 (by decide) ?_
  have hf := Option.some.inj hf
  subst hf
  exact ret_i F hr hk Z dX12_needs_287
set_option maxRecDepth 100000 in
set_option maxHeartbeats 4000000 in
theorem b_X12_needs_66 {p : Program} {l : Launch} {e : Env} {s : State} {m : MethodId} {args : Array Value} {below : List Frame} {meth : Method} {c : Code} {D : va_G} {A : Nat → Prop} {ad : Nat → Nat} {cy : Nat → ClassId} {ee : EE} {n : Nat} {res : (Int32 × StT)} (F : CallFix p m c cX12_needs 13 s args (Cond.code yX12_needs cX12_needs 13 (some .int) :: Gw) yX12_needs.cls) (hr : meth.sig.returnType = (some .int)) (hk : meth.locks = false) (K : va_K D vwCl (tyL cy) s) (E : EV ee A s s.heap) (hA : ∀ q, s.heap.size ≤ q → A q) : ∀ (st : StT) (x1 : Int32), f_X12_needs_66 n st x1 = some res → ∀ (H : Heap) (locs : List Loc) (ls : Array Slot), ZG D (wM ad cy st) A s H locs → lv_has ls 13 [(0, .ref (ad 0)), (1, .int x1)] → W p l e { frames := 2, cells := 0, slots := 0, locals := 48 } s m args below meth c H locs 0 0 (MQ below (QC D (some (.int res.1)) (wM ad cy res.2) A) args s 0 0 A) (F0 m 66 ls []) := by
  have hx := F.1
  have hb := F.2.1
  intro st x1 hf H locs ls Z hl
  unfold f_X12_needs_66 at hf
  refine lv_aload_n hx hb dX12_needs_66 rfl (lv_at hl 0 rfl) ?_
  refine lv_aload_n hx hb dX12_needs_67 rfl (lv_at hl 0 rfl) ?_
  refine gmX12_100 F K Z dX12_needs_68 ?_
  refine lv_iload_n hx hb dX12_needs_71 rfl (lv_at hl 1 rfl) ?_
  obtain ⟨i72, hf⟩ := if_some hf
  refine ml29 F K Z i72 dX12_needs_72 ?_
  refine pmX12_388 F K Z dX12_needs_73 (fun H locs Z => ?_)
  refine lv_iconst (v := 0) hx hb dX12_needs_76 (by decide) ?_
  have hf := Option.some.inj hf
  subst hf
  exact ret_i F hr hk Z dX12_needs_77
set_option maxRecDepth 100000 in
set_option maxHeartbeats 4000000 in
theorem b_X12_needs_36 {p : Program} {l : Launch} {e : Env} {s : State} {m : MethodId} {args : Array Value} {below : List Frame} {meth : Method} {c : Code} {D : va_G} {A : Nat → Prop} {ad : Nat → Nat} {cy : Nat → ClassId} {ee : EE} {n : Nat} {res : (Int32 × StT)} (F : CallFix p m c cX12_needs 13 s args (Cond.code yX12_needs cX12_needs 13 (some .int) :: Gw) yX12_needs.cls) (hr : meth.sig.returnType = (some .int)) (hk : meth.locks = false) (K : va_K D vwCl (tyL cy) s) (E : EV ee A s s.heap) (hA : ∀ q, s.heap.size ≤ q → A q) : ∀ (st : StT) (x1 : Int32) (x3 : Int32), f_X12_needs_36 n st x1 x3 = some res → ∀ (H : Heap) (locs : List Loc) (ls : Array Slot), ZG D (wM ad cy st) A s H locs → lv_has ls 13 [(0, .ref (ad 0)), (1, .int x1), (3, .int x3)] → W p l e { frames := 2, cells := 0, slots := 0, locals := 48 } s m args below meth c H locs 0 0 (MQ below (QC D (some (.int res.1)) (wM ad cy res.2) A) args s 0 0 A) (F0 m 36 ls []) := by
  have hx := F.1
  have hb := F.2.1
  intro st x1 x3 hf H locs ls Z hl
  unfold f_X12_needs_36 at hf
  refine lv_iload_n hx hb dX12_needs_36 rfl (lv_at hl 2 rfl) ?_
  refine lv_aload_n hx hb dX12_needs_37 rfl (lv_at hl 0 rfl) ?_
  refine gmX12_82 F K Z dX12_needs_38 ?_
  refine lv_iload_n hx hb dX12_needs_41 rfl (lv_at hl 1 rfl) ?_
  obtain ⟨i42, hf⟩ := if_some hf
  refine ml23 F K Z i42 dX12_needs_42 ?_
  refine lv_icmp_ne (tgt := 78) hx hb dX12_needs_43 (by decide) (fun c43 => ?_) (fun c43 => ?_)
  · have hf := if_f c43 hf
    refine lv_aload_n hx hb dX12_needs_78 rfl (lv_at hl 0 rfl) ?_
    refine gmX12_88 F K Z dX12_needs_79 ?_
    refine lv_iload_n hx hb dX12_needs_82 rfl (lv_at hl 1 rfl) ?_
    obtain ⟨i83, hf⟩ := if_some hf
    refine ml25 F K Z i83 dX12_needs_83 ?_
    refine lv_istore (lv' := [(4, .int (st.2.1 24 (x1).toNatClampNeg)), (0, .ref (ad 0)), (1, .int x1), (3, .int x3)]) hx hb dX12_needs_84 hl (by decide) rfl (fun ls hl => ?_)
    refine lv_aload_n hx hb dX12_needs_86 rfl (lv_at hl 1 rfl) ?_
    refine gmX12_73 F K Z dX12_needs_87 ?_
    refine lv_bipush (v := 60) hx hb dX12_needs_90 (by decide) ?_
    refine lv_iload_n hx hb dX12_needs_92 rfl (lv_at hl 2 rfl) ?_
    refine lv_imul hx hb dX12_needs_93 ?_
    refine lv_iload_n hx hb dX12_needs_94 rfl (lv_at hl 3 rfl) ?_
    refine lv_iadd hx hb dX12_needs_95 ?_
    obtain ⟨i96, hf⟩ := if_some hf
    refine ml20 F K Z i96 dX12_needs_96 ?_
    refine lv_istore (lv' := [(5, .int (st.2.1 19 ((((60 : Int32) * x1) + x3)).toNatClampNeg)), (4, .int (st.2.1 24 (x1).toNatClampNeg)), (0, .ref (ad 0)), (1, .int x1), (3, .int x3)]) hx hb dX12_needs_97 hl (by decide) rfl (fun ls hl => ?_)
    refine lv_aload_n hx hb dX12_needs_99 rfl (lv_at hl 2 rfl) ?_
    refine gmX12_13 F K Z dX12_needs_100 ?_
    refine lv_aload_n hx hb dX12_needs_103 rfl (lv_at hl 2 rfl) ?_
    refine gmX12_13 F K Z dX12_needs_104 ?_
    refine lv_iload hx hb dX12_needs_107 (lv_at hl 0 rfl) ?_
    obtain ⟨i109, hf⟩ := if_some hf
    refine ml2 F K Z i109 dX12_needs_109 ?_
    obtain ⟨i110, hf⟩ := if_some hf
    refine ml2 F K Z i110 dX12_needs_110 ?_
    refine lv_istore (lv' := [(6, .int (st.2.1 1 ((st.2.1 1 ((st.2.1 19 ((((60 : Int32) * x1) + x3)).toNatClampNeg)).toNatClampNeg)).toNatClampNeg)), (5, .int (st.2.1 19 ((((60 : Int32) * x1) + x3)).toNatClampNeg)), (4, .int (st.2.1 24 (x1).toNatClampNeg)), (0, .ref (ad 0)), (1, .int x1), (3, .int x3)]) hx hb dX12_needs_111 hl (by decide) rfl (fun ls hl => ?_)
    refine lv_aload_n hx hb dX12_needs_113 rfl (lv_at hl 3 rfl) ?_
    refine gmX12_16 F K Z dX12_needs_114 ?_
    refine lv_aload_n hx hb dX12_needs_117 rfl (lv_at hl 3 rfl) ?_
    refine gmX12_13 F K Z dX12_needs_118 ?_
    refine lv_iload hx hb dX12_needs_121 (lv_at hl 1 rfl) ?_
    obtain ⟨i123, hf⟩ := if_some hf
    refine ml2 F K Z i123 dX12_needs_123 ?_
    obtain ⟨i124, hf⟩ := if_some hf
    refine ml3 F K Z i124 dX12_needs_124 ?_
    refine lv_istore (lv' := [(7, .int (st.2.1 2 ((st.2.1 1 ((st.2.1 19 ((((60 : Int32) * x1) + x3)).toNatClampNeg)).toNatClampNeg)).toNatClampNeg)), (6, .int (st.2.1 1 ((st.2.1 1 ((st.2.1 19 ((((60 : Int32) * x1) + x3)).toNatClampNeg)).toNatClampNeg)).toNatClampNeg)), (5, .int (st.2.1 19 ((((60 : Int32) * x1) + x3)).toNatClampNeg)), (4, .int (st.2.1 24 (x1).toNatClampNeg)), (0, .ref (ad 0)), (1, .int x1), (3, .int x3)]) hx hb dX12_needs_125 hl (by decide) rfl (fun ls hl => ?_)
    refine lv_aload_n hx hb dX12_needs_127 rfl (lv_at hl 4 rfl) ?_
    refine gmX12_94 F K Z dX12_needs_128 ?_
    refine lv_iload_n hx hb dX12_needs_131 rfl (lv_at hl 5 rfl) ?_
    refine lv_iload_n hx hb dX12_needs_132 rfl (lv_at hl 6 rfl) ?_
    obtain ⟨i133, hf⟩ := if_some hf
    refine ms27 F K Z i133 dX12_needs_133 (fun H locs Z => ?_)
    refine lv_aload_n hx hb dX12_needs_134 rfl (lv_at hl 4 rfl) ?_
    refine gmX12_91 F K Z dX12_needs_135 ?_
    refine lv_iload_n hx hb dX12_needs_138 rfl (lv_at hl 5 rfl) ?_
    refine lv_bipush (v := 9) hx hb dX12_needs_139 (by decide) ?_
    obtain ⟨i141, hf⟩ := if_some hf
    refine ms26 F K Z i141 dX12_needs_141 (fun H locs Z => ?_)
    refine lv_aload_n hx hb dX12_needs_142 rfl (lv_at hl 4 rfl) ?_
    refine lv_iload_n hx hb dX12_needs_143 rfl (lv_at hl 5 rfl) ?_
    refine lv_iload_n hx hb dX12_needs_144 rfl (lv_at hl 6 rfl) ?_
    refine lv_iload hx hb dX12_needs_145 (lv_at hl 0 rfl) ?_
    refine lv_iload hx hb dX12_needs_147 (lv_at hl 3 rfl) ?_
    refine lv_iconst (v := 1) hx hb dX12_needs_149 (by decide) ?_
    refine lv_iadd hx hb dX12_needs_150 ?_
    obtain ⟨q151, h151, hf⟩ := bind_some hf
    refine krX12_356_X12_within F K E hA Z h151 ⟨Nat.le_of_ble_eq_true rfl, Nat.le_of_ble_eq_true rfl⟩ hl.1 (Nat.le_of_ble_eq_true rfl) dX12_needs_151 (fun H locs Z => ?_)
    refine lv_aload_n hx hb dX12_needs_154 rfl (lv_at hl 4 rfl) ?_
    refine lv_bipush (v := 77) hx hb dX12_needs_155 (by decide) ?_
    refine lv_iload hx hb dX12_needs_157 (lv_at hl 3 rfl) ?_
    refine lv_aload_n hx hb dX12_needs_159 rfl (lv_at hl 4 rfl) ?_
    refine lv_iload_n hx hb dX12_needs_160 rfl (lv_at hl 5 rfl) ?_
    refine lv_iload_n hx hb dX12_needs_161 rfl (lv_at hl 6 rfl) ?_
    obtain ⟨q162, h162, hf⟩ := bind_some hf
    refine krX12_350_X12_termOf F K E hA Z h162 ⟨Nat.le_of_ble_eq_true rfl, Nat.le_of_ble_eq_true rfl⟩ hl.1 (Nat.le_of_ble_eq_true rfl) dX12_needs_162 (fun H locs Z => ?_)
    refine lv_iconst (v := -1) hx hb dX12_needs_165 (by decide) ?_
    refine lv_iconst (v := -1) hx hb dX12_needs_166 (by decide) ?_
    obtain ⟨q167, h167, hf⟩ := bind_some hf
    refine krX12_318_X12_term F K E hA Z h167 ⟨Nat.le_of_ble_eq_true rfl, Nat.le_of_ble_eq_true rfl⟩ hl.1 (Nat.le_of_ble_eq_true rfl) dX12_needs_167 (fun H locs Z => ?_)
    refine lv_istore (lv' := [(8, .int q167.1), (7, .int (st.2.1 2 ((st.2.1 1 ((st.2.1 19 ((((60 : Int32) * x1) + x3)).toNatClampNeg)).toNatClampNeg)).toNatClampNeg)), (6, .int (st.2.1 1 ((st.2.1 1 ((st.2.1 19 ((((60 : Int32) * x1) + x3)).toNatClampNeg)).toNatClampNeg)).toNatClampNeg)), (5, .int (st.2.1 19 ((((60 : Int32) * x1) + x3)).toNatClampNeg)), (4, .int (st.2.1 24 (x1).toNatClampNeg)), (0, .ref (ad 0)), (1, .int x1), (3, .int x3)]) hx hb dX12_needs_170 hl (by decide) rfl (fun ls hl => ?_)
    refine lv_aload_n hx hb dX12_needs_172 rfl (lv_at hl 5 rfl) ?_
    refine lv_iconst (v := 5) hx hb dX12_needs_173 (by decide) ?_
    refine lv_iload hx hb dX12_needs_174 (lv_at hl 1 rfl) ?_
    refine lv_aload_n hx hb dX12_needs_176 rfl (lv_at hl 5 rfl) ?_
    refine gmX12_16 F K Z dX12_needs_177 ?_
    refine lv_iload hx hb dX12_needs_180 (lv_at hl 3 rfl) ?_
    obtain ⟨i182, hf⟩ := if_some hf
    refine ml3 F K Z i182 dX12_needs_182 ?_
    obtain ⟨q183, h183, hf⟩ := bind_some hf
    refine krX12_283_X12_formulaOf F K E hA Z h183 ⟨Nat.le_of_ble_eq_true rfl, Nat.le_of_ble_eq_true rfl⟩ hl.1 (Nat.le_of_ble_eq_true rfl) dX12_needs_183 (fun H locs Z => ?_)
    refine lv_istore (lv' := [(9, .int q183.1), (8, .int q167.1), (7, .int (st.2.1 2 ((st.2.1 1 ((st.2.1 19 ((((60 : Int32) * x1) + x3)).toNatClampNeg)).toNatClampNeg)).toNatClampNeg)), (6, .int (st.2.1 1 ((st.2.1 1 ((st.2.1 19 ((((60 : Int32) * x1) + x3)).toNatClampNeg)).toNatClampNeg)).toNatClampNeg)), (5, .int (st.2.1 19 ((((60 : Int32) * x1) + x3)).toNatClampNeg)), (4, .int (st.2.1 24 (x1).toNatClampNeg)), (0, .ref (ad 0)), (1, .int x1), (3, .int x3)]) hx hb dX12_needs_186 hl (by decide) rfl (fun ls hl => ?_)
    refine lv_aload_n hx hb dX12_needs_188 rfl (lv_at hl 6 rfl) ?_
    refine lv_bipush (v := 65) hx hb dX12_needs_189 (by decide) ?_
    refine lv_iconst (v := 0) hx hb dX12_needs_191 (by decide) ?_
    refine lv_iload hx hb dX12_needs_192 (lv_at hl 1 rfl) ?_
    refine lv_aload_n hx hb dX12_needs_194 rfl (lv_at hl 6 rfl) ?_
    refine lv_bipush (v := 76) hx hb dX12_needs_195 (by decide) ?_
    refine lv_iload hx hb dX12_needs_197 (lv_at hl 3 rfl) ?_
    refine lv_aload_n hx hb dX12_needs_199 rfl (lv_at hl 6 rfl) ?_
    refine lv_iload hx hb dX12_needs_200 (lv_at hl 5 rfl) ?_
    obtain ⟨q202, h202, hf⟩ := bind_some hf
    refine krX12_360_X12_hypothesis F K E hA Z h202 ⟨Nat.le_of_ble_eq_true rfl, Nat.le_of_ble_eq_true rfl⟩ hl.1 (Nat.le_of_ble_eq_true rfl) dX12_needs_202 (fun H locs Z => ?_)
    refine lv_iconst (v := -1) hx hb dX12_needs_205 (by decide) ?_
    refine lv_iconst (v := -1) hx hb dX12_needs_206 (by decide) ?_
    obtain ⟨q207, h207, hf⟩ := bind_some hf
    refine krX12_318_X12_term F K E hA Z h207 ⟨Nat.le_of_ble_eq_true rfl, Nat.le_of_ble_eq_true rfl⟩ hl.1 (Nat.le_of_ble_eq_true rfl) dX12_needs_207 (fun H locs Z => ?_)
    refine lv_iconst (v := -1) hx hb dX12_needs_210 (by decide) ?_
    obtain ⟨q211, h211, hf⟩ := bind_some hf
    refine krX12_318_X12_term F K E hA Z h211 ⟨Nat.le_of_ble_eq_true rfl, Nat.le_of_ble_eq_true rfl⟩ hl.1 (Nat.le_of_ble_eq_true rfl) dX12_needs_211 (fun H locs Z => ?_)
    refine lv_istore (lv' := [(10, .int q211.1), (9, .int q183.1), (8, .int q167.1), (7, .int (st.2.1 2 ((st.2.1 1 ((st.2.1 19 ((((60 : Int32) * x1) + x3)).toNatClampNeg)).toNatClampNeg)).toNatClampNeg)), (6, .int (st.2.1 1 ((st.2.1 1 ((st.2.1 19 ((((60 : Int32) * x1) + x3)).toNatClampNeg)).toNatClampNeg)).toNatClampNeg)), (5, .int (st.2.1 19 ((((60 : Int32) * x1) + x3)).toNatClampNeg)), (4, .int (st.2.1 24 (x1).toNatClampNeg)), (0, .ref (ad 0)), (1, .int x1), (3, .int x3)]) hx hb dX12_needs_214 hl (by decide) rfl (fun ls hl => ?_)
    refine lv_iload_n hx hb dX12_needs_216 rfl (lv_at hl 8 rfl) ?_
    refine lv_iconst (v := 1) hx hb dX12_needs_217 (by decide) ?_
    refine lv_iadd hx hb dX12_needs_218 ?_
    refine lv_istore (lv' := [(11, .int (x1 + (1 : Int32))), (10, .int q211.1), (9, .int q183.1), (8, .int q167.1), (7, .int (st.2.1 2 ((st.2.1 1 ((st.2.1 19 ((((60 : Int32) * x1) + x3)).toNatClampNeg)).toNatClampNeg)).toNatClampNeg)), (6, .int (st.2.1 1 ((st.2.1 1 ((st.2.1 19 ((((60 : Int32) * x1) + x3)).toNatClampNeg)).toNatClampNeg)).toNatClampNeg)), (5, .int (st.2.1 19 ((((60 : Int32) * x1) + x3)).toNatClampNeg)), (4, .int (st.2.1 24 (x1).toNatClampNeg)), (0, .ref (ad 0)), (1, .int x1), (3, .int x3)]) hx hb dX12_needs_219 hl (by decide) rfl (fun ls hl => ?_)
    refine lv_aload_n hx hb dX12_needs_221 rfl (lv_at hl 8 rfl) ?_
    refine lv_iload hx hb dX12_needs_222 (lv_at hl 0 rfl) ?_
    refine lv_iload hx hb dX12_needs_224 (lv_at hl 2 rfl) ?_
    refine lv_aload_n hx hb dX12_needs_226 rfl (lv_at hl 8 rfl) ?_
    refine lv_bipush (v := 76) hx hb dX12_needs_227 (by decide) ?_
    refine lv_iload hx hb dX12_needs_229 (lv_at hl 4 rfl) ?_
    refine lv_iload hx hb dX12_needs_231 (lv_at hl 1 rfl) ?_
    refine lv_iconst (v := -1) hx hb dX12_needs_233 (by decide) ?_
    refine lv_iconst (v := -1) hx hb dX12_needs_234 (by decide) ?_
    obtain ⟨q235, h235, hf⟩ := bind_some hf
    refine krX12_318_X12_term F K E hA Z h235 ⟨Nat.le_of_ble_eq_true rfl, Nat.le_of_ble_eq_true rfl⟩ hl.1 (Nat.le_of_ble_eq_true rfl) dX12_needs_235 (fun H locs Z => ?_)
    refine lv_iload hx hb dX12_needs_238 (lv_at hl 7 rfl) ?_
    obtain ⟨q240, h240, hf⟩ := bind_some hf
    refine krX12_363_X12_comes F K E hA Z h240 ⟨Nat.le_of_ble_eq_true rfl, Nat.le_of_ble_eq_true rfl⟩ hl.1 (Nat.le_of_ble_eq_true rfl) dX12_needs_240 (fun H locs Z => ?_)
    refine lv_if_eq (tgt := 271) hx hb dX12_needs_243 (by decide) (fun c243 => ?_) (fun c243 => ?_)
    · have hf := if_t c243 hf
      refine lv_iconst (v := 0) hx hb dX12_needs_271 (by decide) ?_
      exact b_X12_needs_272 F hr hk K E hA _ _ hf _ _ _ Z (lv_sub hl [8] rfl)
    have hf := if_f c243 hf
    refine lv_aload_n hx hb dX12_needs_246 rfl (lv_at hl 8 rfl) ?_
    refine lv_iload hx hb dX12_needs_247 (lv_at hl 0 rfl) ?_
    refine lv_iload hx hb dX12_needs_249 (lv_at hl 5 rfl) ?_
    refine lv_aload_n hx hb dX12_needs_251 rfl (lv_at hl 8 rfl) ?_
    refine lv_iload hx hb dX12_needs_252 (lv_at hl 7 rfl) ?_
    obtain ⟨q254, h254, hf⟩ := bind_some hf
    refine krX12_360_X12_hypothesis F K E hA Z h254 ⟨Nat.le_of_ble_eq_true rfl, Nat.le_of_ble_eq_true rfl⟩ hl.1 (Nat.le_of_ble_eq_true rfl) dX12_needs_254 (fun H locs Z => ?_)
    refine lv_iload hx hb dX12_needs_257 (lv_at hl 7 rfl) ?_
    refine lv_iconst (v := 1) hx hb dX12_needs_259 (by decide) ?_
    refine lv_iadd hx hb dX12_needs_260 ?_
    obtain ⟨q261, h261, hf⟩ := bind_some hf
    refine krX12_363_X12_comes F K E hA Z h261 ⟨Nat.le_of_ble_eq_true rfl, Nat.le_of_ble_eq_true rfl⟩ hl.1 (Nat.le_of_ble_eq_true rfl) dX12_needs_261 (fun H locs Z => ?_)
    refine lv_if_eq (tgt := 271) hx hb dX12_needs_264 (by decide) (fun c264 => ?_) (fun c264 => ?_)
    · have hf := if_t c264 hf
      refine lv_iconst (v := 0) hx hb dX12_needs_271 (by decide) ?_
      exact b_X12_needs_272 F hr hk K E hA _ _ hf _ _ _ Z (lv_sub hl [8] rfl)
    have hf := if_f c264 hf
    refine lv_iconst (v := 1) hx hb dX12_needs_267 (by decide) ?_
    refine lv_goto (tgt := 272) hx hb dX12_needs_268 (by decide) ?_
    exact b_X12_needs_272 F hr hk K E hA _ _ hf _ _ _ Z (lv_sub hl [8] rfl)
  have hf := if_t c43 hf
  refine lv_aload_n hx hb dX12_needs_46 rfl (lv_at hl 0 rfl) ?_
  refine gmX12_100 F K Z dX12_needs_47 ?_
  refine lv_iload_n hx hb dX12_needs_50 rfl (lv_at hl 1 rfl) ?_
  obtain ⟨i51, hf⟩ := if_some hf
  refine ml29 F K Z i51 dX12_needs_51 ?_
  refine lv_if_ge (tgt := 66) hx hb dX12_needs_52 (by decide) (fun c52 => ?_) (fun c52 => ?_)
  · have hf := if_t c52 hf
    exact b_X12_needs_66 F hr hk K E hA _ _ hf _ _ _ Z (lv_sub hl [0, 1] rfl)
  have hf := if_f c52 hf
  refine lv_aload_n hx hb dX12_needs_55 rfl (lv_at hl 0 rfl) ?_
  refine gmX12_100 F K Z dX12_needs_56 ?_
  refine lv_iload_n hx hb dX12_needs_59 rfl (lv_at hl 1 rfl) ?_
  refine lv_aload_n hx hb dX12_needs_60 rfl (lv_at hl 0 rfl) ?_
  refine lv_iload_n hx hb dX12_needs_61 rfl (lv_at hl 1 rfl) ?_
  obtain ⟨q62, h62, hf⟩ := bind_some hf
  refine krX12_385_X12_newWorld F K E hA Z h62 ⟨Nat.le_of_ble_eq_true rfl, Nat.le_of_ble_eq_true rfl⟩ hl.1 (Nat.le_of_ble_eq_true rfl) dX12_needs_62 (fun H locs Z => ?_)
  obtain ⟨i65, hf⟩ := if_some hf
  refine ms29 F K Z i65 dX12_needs_65 (fun H locs Z => ?_)
  exact b_X12_needs_66 F hr hk K E hA _ _ hf _ _ _ Z (lv_sub hl [0, 1] rfl)
set_option maxRecDepth 100000 in
set_option maxHeartbeats 4000000 in
theorem b_X12_needs_2 {p : Program} {l : Launch} {e : Env} {s : State} {m : MethodId} {args : Array Value} {below : List Frame} {meth : Method} {c : Code} {D : va_G} {A : Nat → Prop} {ad : Nat → Nat} {cy : Nat → ClassId} {ee : EE} {n : Nat} {res : (Int32 × StT)} (F : CallFix p m c cX12_needs 13 s args (Cond.code yX12_needs cX12_needs 13 (some .int) :: Gw) yX12_needs.cls) (hr : meth.sig.returnType = (some .int)) (hk : meth.locks = false) (K : va_K D vwCl (tyL cy) s) (E : EV ee A s s.heap) (hA : ∀ q, s.heap.size ≤ q → A q) : ∀ (k : Nat) (st : StT) (x1 : Int32) (x3 : Int32), f_X12_needs_2 n k st x1 x3 = some res → ∀ (H : Heap) (locs : List Loc) (ls : Array Slot), ZG D (wM ad cy st) A s H locs → lv_has ls 13 [(0, .ref (ad 0)), (1, .int x1), (3, .int x3)] → W p l e { frames := 2, cells := 0, slots := 0, locals := 48 } s m args below meth c H locs 0 0 (MQ below (QC D (some (.int res.1)) (wM ad cy res.2) A) args s 0 0 A) (F0 m 2 ls []) := by
  have hx := F.1
  have hb := F.2.1
  intro k
  induction k with
  | zero =>
    intro st x1 x3 hf
    exact absurd hf (by simp [f_X12_needs_2])
  | succ k ih =>
    intro st x1 x3 hf H locs ls Z hl
    rw [f_X12_needs_2] at hf
    refine lv_iload_n hx hb dX12_needs_2 rfl (lv_at hl 2 rfl) ?_
    refine lv_aload_n hx hb dX12_needs_3 rfl (lv_at hl 0 rfl) ?_
    refine gmX12_82 F K Z dX12_needs_4 ?_
    refine lv_iload_n hx hb dX12_needs_7 rfl (lv_at hl 1 rfl) ?_
    obtain ⟨i8, hf⟩ := if_some hf
    refine ml23 F K Z i8 dX12_needs_8 ?_
    refine lv_icmp_ge (tgt := 36) hx hb dX12_needs_9 (by decide) (fun c9 => ?_) (fun c9 => ?_)
    · have hf := if_t c9 hf
      exact b_X12_needs_36 F hr hk K E hA _ _ _ hf _ _ _ Z hl
    have hf := if_f c9 hf
    refine lv_aload_n hx hb dX12_needs_12 rfl (lv_at hl 0 rfl) ?_
    refine lv_aload_n hx hb dX12_needs_13 rfl (lv_at hl 0 rfl) ?_
    refine gmX12_73 F K Z dX12_needs_14 ?_
    refine lv_bipush (v := 60) hx hb dX12_needs_17 (by decide) ?_
    refine lv_iload_n hx hb dX12_needs_19 rfl (lv_at hl 1 rfl) ?_
    refine lv_imul hx hb dX12_needs_20 ?_
    refine lv_iload_n hx hb dX12_needs_21 rfl (lv_at hl 2 rfl) ?_
    refine lv_iadd hx hb dX12_needs_22 ?_
    obtain ⟨i23, hf⟩ := if_some hf
    refine ml20 F K Z i23 dX12_needs_23 ?_
    obtain ⟨q24, h24, hf⟩ := bind_some hf
    refine krX12_382_X12_isNeeding F K E hA Z h24 ⟨Nat.le_of_ble_eq_true rfl, Nat.le_of_ble_eq_true rfl⟩ hl.1 (Nat.le_of_ble_eq_true rfl) dX12_needs_24 (fun H locs Z => ?_)
    refine lv_if_ne (tgt := 36) hx hb dX12_needs_27 (by decide) (fun c27 => ?_) (fun c27 => ?_)
    · have hf := if_f c27 hf
      exact b_X12_needs_36 F hr hk K E hA _ _ _ hf _ _ _ Z hl
    have hf := if_t c27 hf
    refine lv_iinc (v := (x3 + (1 : Int32))) (lv' := [(3, .int (x3 + (1 : Int32))), (0, .ref (ad 0)), (1, .int x1)]) hx hb dX12_needs_30 hl (k := 2) rfl (congrArg (fun z => x3 + z) (by decide)) (by decide) rfl (fun ls hl => ?_)
    refine lv_goto (tgt := 2) hx hb dX12_needs_33 (by decide) ?_
    exact ih _ _ _ hf _ _ _ Z (lv_sub hl [1, 2, 0] rfl)
set_option maxRecDepth 100000 in
set_option maxHeartbeats 4000000 in
theorem c_X12_needs {l : Launch} {D : va_G} {ad : Nat → Nat} {cy : Nat → ClassId} {ee : EE} {n : Nat} {st : StT} {x1 : Int32} {x2 : Int32} {res : (Int32 × StT)} (hf : f_X12_needs n st x1 x2 = some res) : CT l yX12_needs cX12_needs 13 (some .int) 2 48 D cy ee (wM ad cy st) (wM ad cy res.2) [.ref (ad 0), .int x1, .int x2] (some (.int res.1)) := by
  refine CT.of (by decide +kernel) (Nat.le_of_ble_eq_true rfl) ?_
  intro p e s m args below meth c A F hr hk K E hA Z ls hl
  have hl : lv_has ls 13 [(0, .ref (ad 0)), (1, .int x1), (2, .int x2)] := hl
  have hx := F.1
  have hb := F.2.1
  unfold f_X12_needs at hf
  refine lv_iload_n hx hb dX12_needs_0 rfl (lv_at hl 2 rfl) ?_
  refine lv_istore_n (lv' := [(3, .int x2), (0, .ref (ad 0)), (1, .int x1), (2, .int x2)]) hx hb dX12_needs_1 rfl hl (by decide) rfl (fun ls hl => ?_)
  exact b_X12_needs_2 F hr hk K E hA _ _ _ _ hf _ _ _ Z (lv_sub hl [1, 2, 0] rfl)
def f_X12_leading_176 (n : Nat) (st : StT) (x2 : Int32) (x5 : Int32) (x6 : Int32) (x9 : Int32) (y0 : Int32) : Option (Int32 × StT) := (f_X12_hypothesis n st x5).bind fun q185 => ((f_X12_hypothesis n q185.2 (x5 + (1 : Int32))).bind fun q193 => ((f_X12_term n q193.2 (80 : Int32) (0 : Int32) q185.1 q193.1 (-1 : Int32)).bind fun q197 => (if inB x6 4200 = true then ((f_X12_term n q197.2 (65 : Int32) (0 : Int32) x9 q197.1 (-1 : Int32)).bind fun q221 => ((f_X12_term n q221.2 (76 : Int32) (q197.2.2.1 2 (x6).toNatClampNeg) q221.1 (-1 : Int32) (-1 : Int32)).bind fun q226 => (if inB x6 4200 = true then ((f_X12_term n q226.2 (76 : Int32) (q226.2.2.1 1 (x6).toNatClampNeg) q226.1 (-1 : Int32) (-1 : Int32)).bind fun q249 => ((f_X12_comes n q249.2 x2 y0 q249.1 x5).bind fun q254 => (if isZ q254.1 = true then some (q254.1, q254.2) else none))) else none))) else none)))
def f_X12_leading (n : Nat) (st : StT) (x1 : Int32) (x2 : Int32) (x3 : Int32) (x4 : Int32) (x5 : Int32) : Option (Int32 × StT) := if inB x4 4200 = true then (if inB x4 4200 = true then (if (st.2.1 1 (x4).toNatClampNeg) = 0 then (some ((1 : Int32), st)) else ((f_X12_termOf n st x1 x3).bind fun q28 => (if (st.2.1 1 (x4).toNatClampNeg) = (1 : Int32) then ((f_X12_term n q28.2 (84 : Int32) (0 : Int32) (-1 : Int32) (-1 : Int32) (-1 : Int32)).bind fun q56 => ((f_X12_term n q56.2 (65 : Int32) (0 : Int32) q28.1 q56.1 (-1 : Int32)).bind fun q60 => ((f_X12_comes n q60.2 x2 (st.2.1 2 (x4).toNatClampNeg) q60.1 x5).bind fun q65 => (if isZ q65.1 = true then some (q65.1, q65.2) else none)))) else (if inB (st.2.1 1 (x4).toNatClampNeg) 4200 = true then (if (q28.2.2.1 0 ((st.2.1 1 (x4).toNatClampNeg)).toNatClampNeg) = (2 : Int32) then ((f_X12_findLeft n q28.2 x1 (st.2.1 1 (x4).toNatClampNeg)).bind fun q96 => ((f_X12_termOf n q96.2 x1 q96.1).bind fun q99 => ((f_X12_term n q99.2 (65 : Int32) (0 : Int32) q28.1 q99.1 (-1 : Int32)).bind fun q103 => ((f_X12_comes n q103.2 x2 (st.2.1 2 (x4).toNatClampNeg) q103.1 x5).bind fun q108 => (if isZ q108.1 = true then some (q108.1, q108.2) else none))))) else ((f_X12_term n q28.2 (77 : Int32) x5 q28.1 (-1 : Int32) (-1 : Int32)).bind fun q121 => (if inB (st.2.1 1 (x4).toNatClampNeg) 4200 = true then (if (q121.2.2.1 0 ((st.2.1 1 (x4).toNatClampNeg)).toNatClampNeg) = (3 : Int32) then (if inB (st.2.1 1 (x4).toNatClampNeg) 4200 = true then ((f_X12_formulaOf n q121.2 (5 : Int32) (q121.2.2.1 2 ((st.2.1 1 (x4).toNatClampNeg)).toNatClampNeg) (st.2.1 2 (x4).toNatClampNeg)).bind fun q148 => (if 0 ≤ q148.1 then (if inB (st.2.1 1 (x4).toNatClampNeg) 4200 = true then ((f_X12_formulaOf n q148.2 (5 : Int32) (q148.2.2.1 1 ((st.2.1 1 (x4).toNatClampNeg)).toNatClampNeg) q148.1).bind fun q173 => (f_X12_leading_176 n q173.2 x2 x5 (st.2.1 1 (x4).toNatClampNeg) q121.1 q173.1)) else none) else (f_X12_leading_176 n q148.2 x2 x5 (st.2.1 1 (x4).toNatClampNeg) q121.1 (-1 : Int32)))) else none) else (if inB (st.2.1 1 (x4).toNatClampNeg) 4200 = true then ((f_X12_formulaOf n q121.2 (5 : Int32) (q121.2.2.1 1 ((st.2.1 1 (x4).toNatClampNeg)).toNatClampNeg) (st.2.1 2 (x4).toNatClampNeg)).bind fun q269 => ((f_X12_hypothesis n q269.2 x5).bind fun q287 => ((f_X12_term n q287.2 (73 : Int32) (0 : Int32) q287.1 (-1 : Int32) (-1 : Int32)).bind fun q292 => ((f_X12_term n q292.2 (65 : Int32) (0 : Int32) q121.1 q292.1 (-1 : Int32)).bind fun q296 => (if inB (st.2.1 1 (x4).toNatClampNeg) 4200 = true then ((f_X12_term n q296.2 (76 : Int32) (q296.2.2.1 1 ((st.2.1 1 (x4).toNatClampNeg)).toNatClampNeg) q296.1 (-1 : Int32) (-1 : Int32)).bind fun q319 => ((f_X12_comes n q319.2 x2 q269.1 q319.1 x5).bind fun q324 => (if q324.1 = 0 then (some ((0 : Int32), q324.2)) else (if inB (st.2.1 1 (x4).toNatClampNeg) 4200 = true then ((f_X12_formulaOf n q324.2 (5 : Int32) (q324.2.2.1 2 ((st.2.1 1 (x4).toNatClampNeg)).toNatClampNeg) (st.2.1 2 (x4).toNatClampNeg)).bind fun q343 => ((f_X12_hypothesis n q343.2 x5).bind fun q361 => ((f_X12_term n q361.2 (74 : Int32) (0 : Int32) q361.1 (-1 : Int32) (-1 : Int32)).bind fun q366 => ((f_X12_term n q366.2 (65 : Int32) (0 : Int32) q121.1 q366.1 (-1 : Int32)).bind fun q370 => (if inB (st.2.1 1 (x4).toNatClampNeg) 4200 = true then ((f_X12_term n q370.2 (76 : Int32) (q370.2.2.1 2 ((st.2.1 1 (x4).toNatClampNeg)).toNatClampNeg) q370.1 (-1 : Int32) (-1 : Int32)).bind fun q393 => ((f_X12_comes n q393.2 x2 q343.1 q393.1 x5).bind fun q398 => (if isZ q398.1 = true then some (q398.1, q398.2) else none))) else none))))) else none)))) else none))))) else none)) else none))) else none)))) else none) else none
section
variable {p : Program} {l : Launch} {e : Env} {R : Room} {s : State} {m : MethodId} {args : Array Value} {below : List Frame} {meth : Method} {c : Code} {H : Heap} {locs : List Loc} {Q : State → Prop}
variable {cc : ByteArray} {nL pc : Nat} {ls : Array Slot} {rest : List Value} {D : va_G} {A : Nat → Prop} {cw : Cond} {ad : Nat → Nat} {cy : Nat → ClassId} {ee : EE} {st : StT} {own : String}
theorem krw9X12_328_X12_findLeft {n : Nat} {a0 : Int32} {a1 : Int32} {q : (Int32 × StT)} (F : CallFix p m c cc nL s args (cw :: Gw) RX12) (K : va_K D vwCl (tyL cy) s) (E : EV ee A s s.heap) (hA : ∀ q, s.heap.size ≤ q → A q) (Z : ZG D (wM ad cy st) A s H locs) (hf : f_X12_findLeft n st a0 a1 = some q) (hR : 1 ≤ R.frames ∧ 24 ≤ R.locals) (hl : ls.size = nL) (hst : (rest.map fun v => v.category).sum ≤ 9) (hd : decode cc pc = .ok (.invokevirtual 328, 3)) (kk : ∀ (H1 : Heap) (locs1 : List Loc), ZG D (wM ad cy q.2) A s H1 locs1 → W p l e R s m args below meth c H1 locs1 0 0 Q (F0 m (pc + 3) ls (.int q.1 :: rest))) : W p l e R s m args below meth c H locs 0 0 Q (F0 m pc ls (.int a1 :: .int a0 :: .ref (ad 0) :: rest)) :=
  call_W 9 (q := (RX12, TX12, 98)) (n := 2) (As := [.int a0, .int a1]) (rv := some (.int q.1)) 0 12 F K E hA Z (c_X12_findLeft (l := l) (D := D) (ad := ad) (cy := cy) (ee := ee) hf) ⟨wd1125, wd1124, wd1126, wd1127, wd1008⟩ (by decide +kernel) rfl rfl hR rfl hl hst (by decide) hd kk
end
set_option maxRecDepth 100000 in
set_option maxHeartbeats 4000000 in
theorem b_X12_leading_176 {p : Program} {l : Launch} {e : Env} {s : State} {m : MethodId} {args : Array Value} {below : List Frame} {meth : Method} {c : Code} {D : va_G} {A : Nat → Prop} {ad : Nat → Nat} {cy : Nat → ClassId} {ee : EE} {n : Nat} {res : (Int32 × StT)} (F : CallFix p m c cX12_leading 14 s args (Cond.code yX12_leading cX12_leading 14 (some .boolean) :: Gw) yX12_leading.cls) (hr : meth.sig.returnType = (some .boolean)) (hk : meth.locks = false) (K : va_K D vwCl (tyL cy) s) (E : EV ee A s s.heap) (hA : ∀ q, s.heap.size ≤ q → A q) : ∀ (st : StT) (x2 : Int32) (x5 : Int32) (x6 : Int32) (x9 : Int32) (y0 : Int32), f_X12_leading_176 n st x2 x5 x6 x9 y0 = some res → ∀ (H : Heap) (locs : List Loc) (ls : Array Slot), ZG D (wM ad cy st) A s H locs → lv_has ls 14 [(0, .ref (ad 0)), (2, .int x2), (5, .int x5), (6, .int x6), (9, .int x9)] → W p l e { frames := 2, cells := 0, slots := 0, locals := 48 } s m args below meth c H locs 0 0 (MQ below (QC D (some (.int res.1)) (wM ad cy res.2) A) args s 0 0 A) (F0 m 176 ls [.int y0]) := by
  have hx := F.1
  have hb := F.2.1
  intro st x2 x5 x6 x9 y0 hf H locs ls Z hl
  unfold f_X12_leading_176 at hf
  refine lv_istore (lv' := [(11, .int y0), (0, .ref (ad 0)), (2, .int x2), (5, .int x5), (6, .int x6), (9, .int x9)]) hx hb dX12_leading_176 hl (by decide) rfl (fun ls hl => ?_)
  refine lv_aload_n hx hb dX12_leading_178 rfl (lv_at hl 1 rfl) ?_
  refine lv_bipush (v := 80) hx hb dX12_leading_179 (by decide) ?_
  refine lv_iconst (v := 0) hx hb dX12_leading_181 (by decide) ?_
  refine lv_aload_n hx hb dX12_leading_182 rfl (lv_at hl 1 rfl) ?_
  refine lv_iload hx hb dX12_leading_183 (lv_at hl 3 rfl) ?_
  obtain ⟨q185, h185, hf⟩ := bind_some hf
  refine krX12_360_X12_hypothesis F K E hA Z h185 ⟨Nat.le_of_ble_eq_true rfl, Nat.le_of_ble_eq_true rfl⟩ hl.1 (Nat.le_of_ble_eq_true rfl) dX12_leading_185 (fun H locs Z => ?_)
  refine lv_aload_n hx hb dX12_leading_188 rfl (lv_at hl 1 rfl) ?_
  refine lv_iload hx hb dX12_leading_189 (lv_at hl 3 rfl) ?_
  refine lv_iconst (v := 1) hx hb dX12_leading_191 (by decide) ?_
  refine lv_iadd hx hb dX12_leading_192 ?_
  obtain ⟨q193, h193, hf⟩ := bind_some hf
  refine krX12_360_X12_hypothesis F K E hA Z h193 ⟨Nat.le_of_ble_eq_true rfl, Nat.le_of_ble_eq_true rfl⟩ hl.1 (Nat.le_of_ble_eq_true rfl) dX12_leading_193 (fun H locs Z => ?_)
  refine lv_iconst (v := -1) hx hb dX12_leading_196 (by decide) ?_
  obtain ⟨q197, h197, hf⟩ := bind_some hf
  refine krX12_318_X12_term F K E hA Z h197 ⟨Nat.le_of_ble_eq_true rfl, Nat.le_of_ble_eq_true rfl⟩ hl.1 (Nat.le_of_ble_eq_true rfl) dX12_leading_197 (fun H locs Z => ?_)
  refine lv_istore (lv' := [(12, .int q197.1), (11, .int y0), (0, .ref (ad 0)), (2, .int x2), (5, .int x5), (6, .int x6), (9, .int x9)]) hx hb dX12_leading_200 hl (by decide) rfl (fun ls hl => ?_)
  refine lv_aload_n hx hb dX12_leading_202 rfl (lv_at hl 2 rfl) ?_
  refine lv_bipush (v := 76) hx hb dX12_leading_203 (by decide) ?_
  refine lv_aload_n hx hb dX12_leading_205 rfl (lv_at hl 2 rfl) ?_
  refine gmX12_16 F K Z dX12_leading_206 ?_
  refine lv_iload hx hb dX12_leading_209 (lv_at hl 5 rfl) ?_
  obtain ⟨i211, hf⟩ := if_some hf
  refine ml3 F K Z i211 dX12_leading_211 ?_
  refine lv_aload_n hx hb dX12_leading_212 rfl (lv_at hl 2 rfl) ?_
  refine lv_bipush (v := 65) hx hb dX12_leading_213 (by decide) ?_
  refine lv_iconst (v := 0) hx hb dX12_leading_215 (by decide) ?_
  refine lv_iload hx hb dX12_leading_216 (lv_at hl 6 rfl) ?_
  refine lv_iload hx hb dX12_leading_218 (lv_at hl 0 rfl) ?_
  refine lv_iconst (v := -1) hx hb dX12_leading_220 (by decide) ?_
  obtain ⟨q221, h221, hf⟩ := bind_some hf
  refine krX12_318_X12_term F K E hA Z h221 ⟨Nat.le_of_ble_eq_true rfl, Nat.le_of_ble_eq_true rfl⟩ hl.1 (Nat.le_of_ble_eq_true rfl) dX12_leading_221 (fun H locs Z => ?_)
  refine lv_iconst (v := -1) hx hb dX12_leading_224 (by decide) ?_
  refine lv_iconst (v := -1) hx hb dX12_leading_225 (by decide) ?_
  obtain ⟨q226, h226, hf⟩ := bind_some hf
  refine krX12_318_X12_term F K E hA Z h226 ⟨Nat.le_of_ble_eq_true rfl, Nat.le_of_ble_eq_true rfl⟩ hl.1 (Nat.le_of_ble_eq_true rfl) dX12_leading_226 (fun H locs Z => ?_)
  refine lv_istore (lv' := [(13, .int q226.1), (12, .int q197.1), (11, .int y0), (0, .ref (ad 0)), (2, .int x2), (5, .int x5), (6, .int x6), (9, .int x9)]) hx hb dX12_leading_229 hl (by decide) rfl (fun ls hl => ?_)
  refine lv_aload_n hx hb dX12_leading_231 rfl (lv_at hl 3 rfl) ?_
  refine lv_iload_n hx hb dX12_leading_232 rfl (lv_at hl 4 rfl) ?_
  refine lv_iload hx hb dX12_leading_233 (lv_at hl 2 rfl) ?_
  refine lv_aload_n hx hb dX12_leading_235 rfl (lv_at hl 3 rfl) ?_
  refine lv_bipush (v := 76) hx hb dX12_leading_236 (by decide) ?_
  refine lv_aload_n hx hb dX12_leading_238 rfl (lv_at hl 3 rfl) ?_
  refine gmX12_13 F K Z dX12_leading_239 ?_
  refine lv_iload hx hb dX12_leading_242 (lv_at hl 6 rfl) ?_
  obtain ⟨i244, hf⟩ := if_some hf
  refine ml2 F K Z i244 dX12_leading_244 ?_
  refine lv_iload hx hb dX12_leading_245 (lv_at hl 0 rfl) ?_
  refine lv_iconst (v := -1) hx hb dX12_leading_247 (by decide) ?_
  refine lv_iconst (v := -1) hx hb dX12_leading_248 (by decide) ?_
  obtain ⟨q249, h249, hf⟩ := bind_some hf
  refine krX12_318_X12_term F K E hA Z h249 ⟨Nat.le_of_ble_eq_true rfl, Nat.le_of_ble_eq_true rfl⟩ hl.1 (Nat.le_of_ble_eq_true rfl) dX12_leading_249 (fun H locs Z => ?_)
  refine lv_iload hx hb dX12_leading_252 (lv_at hl 5 rfl) ?_
  obtain ⟨q254, h254, hf⟩ := bind_some hf
  refine krX12_363_X12_comes F K E hA Z h254 ⟨Nat.le_of_ble_eq_true rfl, Nat.le_of_ble_eq_true rfl⟩ hl.1 (Nat.le_of_ble_eq_true rfl) dX12_leading_254 (fun H locs Z => ?_)
  obtain ⟨i257, hf⟩ := if_some hf
  have hf := Option.some.inj hf
  subst hf
  exact ret_z F hr hk Z i257 dX12_leading_257
set_option maxRecDepth 100000 in
set_option maxHeartbeats 4000000 in
theorem c_X12_leading {l : Launch} {D : va_G} {ad : Nat → Nat} {cy : Nat → ClassId} {ee : EE} {n : Nat} {st : StT} {x1 : Int32} {x2 : Int32} {x3 : Int32} {x4 : Int32} {x5 : Int32} {res : (Int32 × StT)} (hf : f_X12_leading n st x1 x2 x3 x4 x5 = some res) : CT l yX12_leading cX12_leading 14 (some .boolean) 2 48 D cy ee (wM ad cy st) (wM ad cy res.2) [.ref (ad 0), .int x1, .int x2, .int x3, .int x4, .int x5] (some (.int res.1)) := by
  refine CT.of (by decide +kernel) (Nat.le_of_ble_eq_true rfl) ?_
  intro p e s m args below meth c A F hr hk K E hA Z ls hl
  have hl : lv_has ls 14 [(0, .ref (ad 0)), (1, .int x1), (2, .int x2), (3, .int x3), (4, .int x4), (5, .int x5)] := hl
  have hx := F.1
  have hb := F.2.1
  unfold f_X12_leading at hf
  refine lv_aload_n hx hb dX12_leading_0 rfl (lv_at hl 0 rfl) ?_
  refine gmX12_13 F K Z dX12_leading_1 ?_
  refine lv_iload hx hb dX12_leading_4 (lv_at hl 4 rfl) ?_
  obtain ⟨i6, hf⟩ := if_some hf
  refine ml2 F K Z i6 dX12_leading_6 ?_
  refine lv_istore (lv' := [(6, .int (st.2.1 1 (x4).toNatClampNeg)), (0, .ref (ad 0)), (1, .int x1), (2, .int x2), (3, .int x3), (4, .int x4), (5, .int x5)]) hx hb dX12_leading_7 hl (by decide) rfl (fun ls hl => ?_)
  refine lv_aload_n hx hb dX12_leading_9 rfl (lv_at hl 1 rfl) ?_
  refine gmX12_16 F K Z dX12_leading_10 ?_
  refine lv_iload hx hb dX12_leading_13 (lv_at hl 5 rfl) ?_
  obtain ⟨i15, hf⟩ := if_some hf
  refine ml3 F K Z i15 dX12_leading_15 ?_
  refine lv_istore (lv' := [(7, .int (st.2.1 2 (x4).toNatClampNeg)), (6, .int (st.2.1 1 (x4).toNatClampNeg)), (0, .ref (ad 0)), (1, .int x1), (2, .int x2), (3, .int x3), (4, .int x4), (5, .int x5)]) hx hb dX12_leading_16 hl (by decide) rfl (fun ls hl => ?_)
  refine lv_iload hx hb dX12_leading_18 (lv_at hl 1 rfl) ?_
  refine lv_if_ne (tgt := 25) hx hb dX12_leading_20 (by decide) (fun c20 => ?_) (fun c20 => ?_)
  · have hf := if_f c20 hf
    refine lv_aload_n hx hb dX12_leading_25 rfl (lv_at hl 2 rfl) ?_
    refine lv_iload_n hx hb dX12_leading_26 rfl (lv_at hl 3 rfl) ?_
    refine lv_iload_n hx hb dX12_leading_27 rfl (lv_at hl 5 rfl) ?_
    obtain ⟨q28, h28, hf⟩ := bind_some hf
    refine krX12_350_X12_termOf F K E hA Z h28 ⟨Nat.le_of_ble_eq_true rfl, Nat.le_of_ble_eq_true rfl⟩ hl.1 (Nat.le_of_ble_eq_true rfl) dX12_leading_28 (fun H locs Z => ?_)
    refine lv_istore (lv' := [(8, .int q28.1), (7, .int (st.2.1 2 (x4).toNatClampNeg)), (6, .int (st.2.1 1 (x4).toNatClampNeg)), (0, .ref (ad 0)), (1, .int x1), (2, .int x2), (3, .int x3), (4, .int x4), (5, .int x5)]) hx hb dX12_leading_31 hl (by decide) rfl (fun ls hl => ?_)
    refine lv_iload hx hb dX12_leading_33 (lv_at hl 2 rfl) ?_
    refine lv_iconst (v := 1) hx hb dX12_leading_35 (by decide) ?_
    refine lv_icmp_ne (tgt := 69) hx hb dX12_leading_36 (by decide) (fun c36 => ?_) (fun c36 => ?_)
    · have hf := if_f c36 hf
      refine lv_aload_n hx hb dX12_leading_69 rfl (lv_at hl 3 rfl) ?_
      refine gmX12_7 F K Z dX12_leading_70 ?_
      refine lv_iload hx hb dX12_leading_73 (lv_at hl 2 rfl) ?_
      obtain ⟨i75, hf⟩ := if_some hf
      refine ml1 F K Z i75 dX12_leading_75 ?_
      refine lv_iconst (v := 2) hx hb dX12_leading_76 (by decide) ?_
      refine lv_icmp_ne (tgt := 112) hx hb dX12_leading_77 (by decide) (fun c77 => ?_) (fun c77 => ?_)
      · have hf := if_f c77 hf
        refine lv_aload_n hx hb dX12_leading_112 rfl (lv_at hl 3 rfl) ?_
        refine lv_bipush (v := 77) hx hb dX12_leading_113 (by decide) ?_
        refine lv_iload hx hb dX12_leading_115 (lv_at hl 8 rfl) ?_
        refine lv_iload hx hb dX12_leading_117 (lv_at hl 0 rfl) ?_
        refine lv_iconst (v := -1) hx hb dX12_leading_119 (by decide) ?_
        refine lv_iconst (v := -1) hx hb dX12_leading_120 (by decide) ?_
        obtain ⟨q121, h121, hf⟩ := bind_some hf
        refine krX12_318_X12_term F K E hA Z h121 ⟨Nat.le_of_ble_eq_true rfl, Nat.le_of_ble_eq_true rfl⟩ hl.1 (Nat.le_of_ble_eq_true rfl) dX12_leading_121 (fun H locs Z => ?_)
        refine lv_istore (lv' := [(9, .int q121.1), (8, .int q28.1), (7, .int (st.2.1 2 (x4).toNatClampNeg)), (6, .int (st.2.1 1 (x4).toNatClampNeg)), (0, .ref (ad 0)), (1, .int x1), (2, .int x2), (3, .int x3), (4, .int x4), (5, .int x5)]) hx hb dX12_leading_124 hl (by decide) rfl (fun ls hl => ?_)
        refine lv_aload_n hx hb dX12_leading_126 rfl (lv_at hl 4 rfl) ?_
        refine gmX12_7 F K Z dX12_leading_127 ?_
        refine lv_iload hx hb dX12_leading_130 (lv_at hl 3 rfl) ?_
        obtain ⟨i132, hf⟩ := if_some hf
        refine ml1 F K Z i132 dX12_leading_132 ?_
        refine lv_iconst (v := 3) hx hb dX12_leading_133 (by decide) ?_
        refine lv_icmp_ne (tgt := 258) hx hb dX12_leading_134 (by decide) (fun c134 => ?_) (fun c134 => ?_)
        · have hf := if_f c134 hf
          refine lv_aload_n hx hb dX12_leading_258 rfl (lv_at hl 4 rfl) ?_
          refine lv_iconst (v := 5) hx hb dX12_leading_259 (by decide) ?_
          refine lv_aload_n hx hb dX12_leading_260 rfl (lv_at hl 4 rfl) ?_
          refine gmX12_13 F K Z dX12_leading_261 ?_
          refine lv_iload hx hb dX12_leading_264 (lv_at hl 3 rfl) ?_
          obtain ⟨i266, hf⟩ := if_some hf
          refine ml2 F K Z i266 dX12_leading_266 ?_
          refine lv_iload hx hb dX12_leading_267 (lv_at hl 2 rfl) ?_
          obtain ⟨q269, h269, hf⟩ := bind_some hf
          refine krX12_283_X12_formulaOf F K E hA Z h269 ⟨Nat.le_of_ble_eq_true rfl, Nat.le_of_ble_eq_true rfl⟩ hl.1 (Nat.le_of_ble_eq_true rfl) dX12_leading_269 (fun H locs Z => ?_)
          refine lv_istore (lv' := [(10, .int q269.1), (9, .int q121.1), (8, .int q28.1), (7, .int (st.2.1 2 (x4).toNatClampNeg)), (6, .int (st.2.1 1 (x4).toNatClampNeg)), (0, .ref (ad 0)), (1, .int x1), (2, .int x2), (3, .int x3), (4, .int x4), (5, .int x5)]) hx hb dX12_leading_272 hl (by decide) rfl (fun ls hl => ?_)
          refine lv_aload_n hx hb dX12_leading_274 rfl (lv_at hl 5 rfl) ?_
          refine lv_bipush (v := 65) hx hb dX12_leading_275 (by decide) ?_
          refine lv_iconst (v := 0) hx hb dX12_leading_277 (by decide) ?_
          refine lv_iload hx hb dX12_leading_278 (lv_at hl 1 rfl) ?_
          refine lv_aload_n hx hb dX12_leading_280 rfl (lv_at hl 5 rfl) ?_
          refine lv_bipush (v := 73) hx hb dX12_leading_281 (by decide) ?_
          refine lv_iconst (v := 0) hx hb dX12_leading_283 (by decide) ?_
          refine lv_aload_n hx hb dX12_leading_284 rfl (lv_at hl 5 rfl) ?_
          refine lv_iload hx hb dX12_leading_285 (lv_at hl 10 rfl) ?_
          obtain ⟨q287, h287, hf⟩ := bind_some hf
          refine krX12_360_X12_hypothesis F K E hA Z h287 ⟨Nat.le_of_ble_eq_true rfl, Nat.le_of_ble_eq_true rfl⟩ hl.1 (Nat.le_of_ble_eq_true rfl) dX12_leading_287 (fun H locs Z => ?_)
          refine lv_iconst (v := -1) hx hb dX12_leading_290 (by decide) ?_
          refine lv_iconst (v := -1) hx hb dX12_leading_291 (by decide) ?_
          obtain ⟨q292, h292, hf⟩ := bind_some hf
          refine krX12_318_X12_term F K E hA Z h292 ⟨Nat.le_of_ble_eq_true rfl, Nat.le_of_ble_eq_true rfl⟩ hl.1 (Nat.le_of_ble_eq_true rfl) dX12_leading_292 (fun H locs Z => ?_)
          refine lv_iconst (v := -1) hx hb dX12_leading_295 (by decide) ?_
          obtain ⟨q296, h296, hf⟩ := bind_some hf
          refine krX12_318_X12_term F K E hA Z h296 ⟨Nat.le_of_ble_eq_true rfl, Nat.le_of_ble_eq_true rfl⟩ hl.1 (Nat.le_of_ble_eq_true rfl) dX12_leading_296 (fun H locs Z => ?_)
          refine lv_istore (lv' := [(11, .int q296.1), (10, .int q269.1), (9, .int q121.1), (8, .int q28.1), (7, .int (st.2.1 2 (x4).toNatClampNeg)), (6, .int (st.2.1 1 (x4).toNatClampNeg)), (0, .ref (ad 0)), (1, .int x1), (2, .int x2), (3, .int x3), (4, .int x4), (5, .int x5)]) hx hb dX12_leading_299 hl (by decide) rfl (fun ls hl => ?_)
          refine lv_aload_n hx hb dX12_leading_301 rfl (lv_at hl 6 rfl) ?_
          refine lv_iload_n hx hb dX12_leading_302 rfl (lv_at hl 8 rfl) ?_
          refine lv_iload hx hb dX12_leading_303 (lv_at hl 1 rfl) ?_
          refine lv_aload_n hx hb dX12_leading_305 rfl (lv_at hl 6 rfl) ?_
          refine lv_bipush (v := 76) hx hb dX12_leading_306 (by decide) ?_
          refine lv_aload_n hx hb dX12_leading_308 rfl (lv_at hl 6 rfl) ?_
          refine gmX12_13 F K Z dX12_leading_309 ?_
          refine lv_iload hx hb dX12_leading_312 (lv_at hl 5 rfl) ?_
          obtain ⟨i314, hf⟩ := if_some hf
          refine ml2 F K Z i314 dX12_leading_314 ?_
          refine lv_iload hx hb dX12_leading_315 (lv_at hl 0 rfl) ?_
          refine lv_iconst (v := -1) hx hb dX12_leading_317 (by decide) ?_
          refine lv_iconst (v := -1) hx hb dX12_leading_318 (by decide) ?_
          obtain ⟨q319, h319, hf⟩ := bind_some hf
          refine krX12_318_X12_term F K E hA Z h319 ⟨Nat.le_of_ble_eq_true rfl, Nat.le_of_ble_eq_true rfl⟩ hl.1 (Nat.le_of_ble_eq_true rfl) dX12_leading_319 (fun H locs Z => ?_)
          refine lv_iload hx hb dX12_leading_322 (lv_at hl 11 rfl) ?_
          obtain ⟨q324, h324, hf⟩ := bind_some hf
          refine krX12_363_X12_comes F K E hA Z h324 ⟨Nat.le_of_ble_eq_true rfl, Nat.le_of_ble_eq_true rfl⟩ hl.1 (Nat.le_of_ble_eq_true rfl) dX12_leading_324 (fun H locs Z => ?_)
          refine lv_if_ne (tgt := 332) hx hb dX12_leading_327 (by decide) (fun c327 => ?_) (fun c327 => ?_)
          · have hf := if_f c327 hf
            refine lv_aload_n hx hb dX12_leading_332 rfl (lv_at hl 6 rfl) ?_
            refine lv_iconst (v := 5) hx hb dX12_leading_333 (by decide) ?_
            refine lv_aload_n hx hb dX12_leading_334 rfl (lv_at hl 6 rfl) ?_
            refine gmX12_16 F K Z dX12_leading_335 ?_
            refine lv_iload hx hb dX12_leading_338 (lv_at hl 5 rfl) ?_
            obtain ⟨i340, hf⟩ := if_some hf
            refine ml3 F K Z i340 dX12_leading_340 ?_
            refine lv_iload hx hb dX12_leading_341 (lv_at hl 4 rfl) ?_
            obtain ⟨q343, h343, hf⟩ := bind_some hf
            refine krX12_283_X12_formulaOf F K E hA Z h343 ⟨Nat.le_of_ble_eq_true rfl, Nat.le_of_ble_eq_true rfl⟩ hl.1 (Nat.le_of_ble_eq_true rfl) dX12_leading_343 (fun H locs Z => ?_)
            refine lv_istore (lv' := [(12, .int q343.1), (11, .int q296.1), (10, .int q269.1), (9, .int q121.1), (8, .int q28.1), (7, .int (st.2.1 2 (x4).toNatClampNeg)), (6, .int (st.2.1 1 (x4).toNatClampNeg)), (0, .ref (ad 0)), (1, .int x1), (2, .int x2), (3, .int x3), (4, .int x4), (5, .int x5)]) hx hb dX12_leading_346 hl (by decide) rfl (fun ls hl => ?_)
            refine lv_aload_n hx hb dX12_leading_348 rfl (lv_at hl 7 rfl) ?_
            refine lv_bipush (v := 65) hx hb dX12_leading_349 (by decide) ?_
            refine lv_iconst (v := 0) hx hb dX12_leading_351 (by decide) ?_
            refine lv_iload hx hb dX12_leading_352 (lv_at hl 3 rfl) ?_
            refine lv_aload_n hx hb dX12_leading_354 rfl (lv_at hl 7 rfl) ?_
            refine lv_bipush (v := 74) hx hb dX12_leading_355 (by decide) ?_
            refine lv_iconst (v := 0) hx hb dX12_leading_357 (by decide) ?_
            refine lv_aload_n hx hb dX12_leading_358 rfl (lv_at hl 7 rfl) ?_
            refine lv_iload hx hb dX12_leading_359 (lv_at hl 12 rfl) ?_
            obtain ⟨q361, h361, hf⟩ := bind_some hf
            refine krX12_360_X12_hypothesis F K E hA Z h361 ⟨Nat.le_of_ble_eq_true rfl, Nat.le_of_ble_eq_true rfl⟩ hl.1 (Nat.le_of_ble_eq_true rfl) dX12_leading_361 (fun H locs Z => ?_)
            refine lv_iconst (v := -1) hx hb dX12_leading_364 (by decide) ?_
            refine lv_iconst (v := -1) hx hb dX12_leading_365 (by decide) ?_
            obtain ⟨q366, h366, hf⟩ := bind_some hf
            refine krX12_318_X12_term F K E hA Z h366 ⟨Nat.le_of_ble_eq_true rfl, Nat.le_of_ble_eq_true rfl⟩ hl.1 (Nat.le_of_ble_eq_true rfl) dX12_leading_366 (fun H locs Z => ?_)
            refine lv_iconst (v := -1) hx hb dX12_leading_369 (by decide) ?_
            obtain ⟨q370, h370, hf⟩ := bind_some hf
            refine krX12_318_X12_term F K E hA Z h370 ⟨Nat.le_of_ble_eq_true rfl, Nat.le_of_ble_eq_true rfl⟩ hl.1 (Nat.le_of_ble_eq_true rfl) dX12_leading_370 (fun H locs Z => ?_)
            refine lv_istore (lv' := [(11, .int q370.1), (12, .int q343.1), (10, .int q269.1), (9, .int q121.1), (8, .int q28.1), (7, .int (st.2.1 2 (x4).toNatClampNeg)), (6, .int (st.2.1 1 (x4).toNatClampNeg)), (0, .ref (ad 0)), (1, .int x1), (2, .int x2), (3, .int x3), (4, .int x4), (5, .int x5)]) hx hb dX12_leading_373 hl (by decide) rfl (fun ls hl => ?_)
            refine lv_aload_n hx hb dX12_leading_375 rfl (lv_at hl 7 rfl) ?_
            refine lv_iload_n hx hb dX12_leading_376 rfl (lv_at hl 9 rfl) ?_
            refine lv_iload hx hb dX12_leading_377 (lv_at hl 1 rfl) ?_
            refine lv_aload_n hx hb dX12_leading_379 rfl (lv_at hl 7 rfl) ?_
            refine lv_bipush (v := 76) hx hb dX12_leading_380 (by decide) ?_
            refine lv_aload_n hx hb dX12_leading_382 rfl (lv_at hl 7 rfl) ?_
            refine gmX12_16 F K Z dX12_leading_383 ?_
            refine lv_iload hx hb dX12_leading_386 (lv_at hl 6 rfl) ?_
            obtain ⟨i388, hf⟩ := if_some hf
            refine ml3 F K Z i388 dX12_leading_388 ?_
            refine lv_iload hx hb dX12_leading_389 (lv_at hl 0 rfl) ?_
            refine lv_iconst (v := -1) hx hb dX12_leading_391 (by decide) ?_
            refine lv_iconst (v := -1) hx hb dX12_leading_392 (by decide) ?_
            obtain ⟨q393, h393, hf⟩ := bind_some hf
            refine krX12_318_X12_term F K E hA Z h393 ⟨Nat.le_of_ble_eq_true rfl, Nat.le_of_ble_eq_true rfl⟩ hl.1 (Nat.le_of_ble_eq_true rfl) dX12_leading_393 (fun H locs Z => ?_)
            refine lv_iload hx hb dX12_leading_396 (lv_at hl 12 rfl) ?_
            obtain ⟨q398, h398, hf⟩ := bind_some hf
            refine krX12_363_X12_comes F K E hA Z h398 ⟨Nat.le_of_ble_eq_true rfl, Nat.le_of_ble_eq_true rfl⟩ hl.1 (Nat.le_of_ble_eq_true rfl) dX12_leading_398 (fun H locs Z => ?_)
            obtain ⟨i401, hf⟩ := if_some hf
            have hf := Option.some.inj hf
            subst hf
            exact ret_z F hr hk Z i401 dX12_leading_401
          have hf := if_t c327 hf
          refine lv_iconst (v := 0) hx hb dX12_leading_330 (by decide) ?_
          have hf := Option.some.inj hf
          subst hf
          exact ret_z F hr hk Z rfl dX12_leading_331
        have hf := if_t c134 hf
        refine lv_aload_n hx hb dX12_leading_137 rfl (lv_at hl 4 rfl) ?_
        refine lv_iconst (v := 5) hx hb dX12_leading_138 (by decide) ?_
        refine lv_aload_n hx hb dX12_leading_139 rfl (lv_at hl 4 rfl) ?_
        refine gmX12_16 F K Z dX12_leading_140 ?_
        refine lv_iload hx hb dX12_leading_143 (lv_at hl 3 rfl) ?_
        obtain ⟨i145, hf⟩ := if_some hf
        refine ml3 F K Z i145 dX12_leading_145 ?_
        refine lv_iload hx hb dX12_leading_146 (lv_at hl 2 rfl) ?_
        obtain ⟨q148, h148, hf⟩ := bind_some hf
        refine krX12_283_X12_formulaOf F K E hA Z h148 ⟨Nat.le_of_ble_eq_true rfl, Nat.le_of_ble_eq_true rfl⟩ hl.1 (Nat.le_of_ble_eq_true rfl) dX12_leading_148 (fun H locs Z => ?_)
        refine lv_istore (lv' := [(10, .int q148.1), (9, .int q121.1), (8, .int q28.1), (7, .int (st.2.1 2 (x4).toNatClampNeg)), (6, .int (st.2.1 1 (x4).toNatClampNeg)), (0, .ref (ad 0)), (1, .int x1), (2, .int x2), (3, .int x3), (4, .int x4), (5, .int x5)]) hx hb dX12_leading_151 hl (by decide) rfl (fun ls hl => ?_)
        refine lv_iload hx hb dX12_leading_153 (lv_at hl 0 rfl) ?_
        refine lv_if_ge (tgt := 162) hx hb dX12_leading_155 (by decide) (fun c155 => ?_) (fun c155 => ?_)
        · have hf := if_t c155 hf
          refine lv_aload_n hx hb dX12_leading_162 rfl (lv_at hl 5 rfl) ?_
          refine lv_iconst (v := 5) hx hb dX12_leading_163 (by decide) ?_
          refine lv_aload_n hx hb dX12_leading_164 rfl (lv_at hl 5 rfl) ?_
          refine gmX12_13 F K Z dX12_leading_165 ?_
          refine lv_iload hx hb dX12_leading_168 (lv_at hl 4 rfl) ?_
          obtain ⟨i170, hf⟩ := if_some hf
          refine ml2 F K Z i170 dX12_leading_170 ?_
          refine lv_iload hx hb dX12_leading_171 (lv_at hl 0 rfl) ?_
          obtain ⟨q173, h173, hf⟩ := bind_some hf
          refine krX12_283_X12_formulaOf F K E hA Z h173 ⟨Nat.le_of_ble_eq_true rfl, Nat.le_of_ble_eq_true rfl⟩ hl.1 (Nat.le_of_ble_eq_true rfl) dX12_leading_173 (fun H locs Z => ?_)
          exact b_X12_leading_176 F hr hk K E hA _ _ _ _ _ _ hf _ _ _ Z (lv_sub hl [5, 7, 10, 4, 1] rfl)
        have hf := if_f c155 hf
        refine lv_iconst (v := -1) hx hb dX12_leading_158 (by decide) ?_
        refine lv_goto (tgt := 176) hx hb dX12_leading_159 (by decide) ?_
        exact b_X12_leading_176 F hr hk K E hA _ _ _ _ _ _ hf _ _ _ Z (lv_sub hl [5, 7, 10, 4, 1] rfl)
      have hf := if_t c77 hf
      refine lv_aload_n hx hb dX12_leading_80 rfl (lv_at hl 3 rfl) ?_
      refine lv_iload_n hx hb dX12_leading_81 rfl (lv_at hl 5 rfl) ?_
      refine lv_iload hx hb dX12_leading_82 (lv_at hl 1 rfl) ?_
      refine lv_aload_n hx hb dX12_leading_84 rfl (lv_at hl 3 rfl) ?_
      refine lv_bipush (v := 65) hx hb dX12_leading_85 (by decide) ?_
      refine lv_iconst (v := 0) hx hb dX12_leading_87 (by decide) ?_
      refine lv_iload hx hb dX12_leading_88 (lv_at hl 0 rfl) ?_
      refine lv_aload_n hx hb dX12_leading_90 rfl (lv_at hl 3 rfl) ?_
      refine lv_iload_n hx hb dX12_leading_91 rfl (lv_at hl 4 rfl) ?_
      refine lv_aload_n hx hb dX12_leading_92 rfl (lv_at hl 3 rfl) ?_
      refine lv_iload_n hx hb dX12_leading_93 rfl (lv_at hl 4 rfl) ?_
      refine lv_iload hx hb dX12_leading_94 (lv_at hl 2 rfl) ?_
      obtain ⟨q96, h96, hf⟩ := bind_some hf
      refine krw9X12_328_X12_findLeft F K E hA Z h96 ⟨Nat.le_of_ble_eq_true rfl, Nat.le_of_ble_eq_true rfl⟩ hl.1 (Nat.le_of_ble_eq_true rfl) dX12_leading_96 (fun H locs Z => ?_)
      obtain ⟨q99, h99, hf⟩ := bind_some hf
      refine krX12_350_X12_termOf F K E hA Z h99 ⟨Nat.le_of_ble_eq_true rfl, Nat.le_of_ble_eq_true rfl⟩ hl.1 (Nat.le_of_ble_eq_true rfl) dX12_leading_99 (fun H locs Z => ?_)
      refine lv_iconst (v := -1) hx hb dX12_leading_102 (by decide) ?_
      obtain ⟨q103, h103, hf⟩ := bind_some hf
      refine krX12_318_X12_term F K E hA Z h103 ⟨Nat.le_of_ble_eq_true rfl, Nat.le_of_ble_eq_true rfl⟩ hl.1 (Nat.le_of_ble_eq_true rfl) dX12_leading_103 (fun H locs Z => ?_)
      refine lv_iload hx hb dX12_leading_106 (lv_at hl 8 rfl) ?_
      obtain ⟨q108, h108, hf⟩ := bind_some hf
      refine krX12_363_X12_comes F K E hA Z h108 ⟨Nat.le_of_ble_eq_true rfl, Nat.le_of_ble_eq_true rfl⟩ hl.1 (Nat.le_of_ble_eq_true rfl) dX12_leading_108 (fun H locs Z => ?_)
      obtain ⟨i111, hf⟩ := if_some hf
      have hf := Option.some.inj hf
      subst hf
      exact ret_z F hr hk Z i111 dX12_leading_111
    have hf := if_t c36 hf
    refine lv_aload_n hx hb dX12_leading_39 rfl (lv_at hl 3 rfl) ?_
    refine lv_iload_n hx hb dX12_leading_40 rfl (lv_at hl 5 rfl) ?_
    refine lv_iload hx hb dX12_leading_41 (lv_at hl 1 rfl) ?_
    refine lv_aload_n hx hb dX12_leading_43 rfl (lv_at hl 3 rfl) ?_
    refine lv_bipush (v := 65) hx hb dX12_leading_44 (by decide) ?_
    refine lv_iconst (v := 0) hx hb dX12_leading_46 (by decide) ?_
    refine lv_iload hx hb dX12_leading_47 (lv_at hl 0 rfl) ?_
    refine lv_aload_n hx hb dX12_leading_49 rfl (lv_at hl 3 rfl) ?_
    refine lv_bipush (v := 84) hx hb dX12_leading_50 (by decide) ?_
    refine lv_iconst (v := 0) hx hb dX12_leading_52 (by decide) ?_
    refine lv_iconst (v := -1) hx hb dX12_leading_53 (by decide) ?_
    refine lv_iconst (v := -1) hx hb dX12_leading_54 (by decide) ?_
    refine lv_iconst (v := -1) hx hb dX12_leading_55 (by decide) ?_
    obtain ⟨q56, h56, hf⟩ := bind_some hf
    refine krX12_318_X12_term F K E hA Z h56 ⟨Nat.le_of_ble_eq_true rfl, Nat.le_of_ble_eq_true rfl⟩ hl.1 (Nat.le_of_ble_eq_true rfl) dX12_leading_56 (fun H locs Z => ?_)
    refine lv_iconst (v := -1) hx hb dX12_leading_59 (by decide) ?_
    obtain ⟨q60, h60, hf⟩ := bind_some hf
    refine krX12_318_X12_term F K E hA Z h60 ⟨Nat.le_of_ble_eq_true rfl, Nat.le_of_ble_eq_true rfl⟩ hl.1 (Nat.le_of_ble_eq_true rfl) dX12_leading_60 (fun H locs Z => ?_)
    refine lv_iload hx hb dX12_leading_63 (lv_at hl 8 rfl) ?_
    obtain ⟨q65, h65, hf⟩ := bind_some hf
    refine krX12_363_X12_comes F K E hA Z h65 ⟨Nat.le_of_ble_eq_true rfl, Nat.le_of_ble_eq_true rfl⟩ hl.1 (Nat.le_of_ble_eq_true rfl) dX12_leading_65 (fun H locs Z => ?_)
    obtain ⟨i68, hf⟩ := if_some hf
    have hf := Option.some.inj hf
    subst hf
    exact ret_z F hr hk Z i68 dX12_leading_68
  have hf := if_t c20 hf
  refine lv_iconst (v := 1) hx hb dX12_leading_23 (by decide) ?_
  have hf := Option.some.inj hf
  subst hf
  exact ret_z F hr hk Z rfl dX12_leading_24
def f_X12_going_231 (n : Nat) (st : StT) (x6 : Int32) : Option (Int32 × StT) := if x6 = 0 then (some ((3 : Int32), st)) else ((f_X12_begin n st).bind fun q237 => (some (q237.1, q237.2)))
def f_X12_going (n : Nat) (st : StT) (x1 : Int32) (x2 : Int32) : Option (Int32 × StT) := if inB x1 201 = true then (if inB (((60 : Int32) * x1) + x2) 12060 = true then (if inB (st.2.1 19 ((((60 : Int32) * x1) + x2)).toNatClampNeg) 4200 = true then (if (st.2.1 0 ((st.2.1 19 ((((60 : Int32) * x1) + x2)).toNatClampNeg)).toNatClampNeg) = (4 : Int32) then (if inB x1 201 = true then (if inB x1 201 = true then ((f_X12_within n (uA st 26 x1 x2) x1 x2 ((uA st 26 x1 x2).2.1 23 (x1).toNatClampNeg) ((st.2.1 24 (x1).toNatClampNeg) + (1 : Int32))).bind fun q50 => (if inB x1 201 = true then (if inB (st.2.1 19 ((((60 : Int32) * x1) + x2)).toNatClampNeg) 4200 = true then ((f_X12_hypothesis n (uA q50 25 x1 (5 : Int32)) (st.2.1 24 (x1).toNatClampNeg)).bind fun q73 => ((f_X12_comes n q73.2 (x1 + (1 : Int32)) ((uA q50 25 x1 (5 : Int32)).2.1 1 ((st.2.1 19 ((((60 : Int32) * x1) + x2)).toNatClampNeg)).toNatClampNeg) q73.1 ((st.2.1 24 (x1).toNatClampNeg) + (1 : Int32))).bind fun q79 => (if q79.1 = 0 then (some ((3 : Int32), q79.2)) else ((f_X12_begin n q79.2).bind fun q86 => (some (q86.1, q86.2)))))) else none) else none)) else none) else none) else (if inB x1 201 = true then ((f_X12_within n st x1 x2 (st.2.1 23 (x1).toNatClampNeg) (st.2.1 24 (x1).toNatClampNeg)).bind fun q104 => (if inB x1 201 = true then (if inB (st.2.1 19 ((((60 : Int32) * x1) + x2)).toNatClampNeg) 4200 = true then (if ((uA q104 25 x1 (1 : Int32)).2.1 0 ((st.2.1 19 ((((60 : Int32) * x1) + x2)).toNatClampNeg)).toNatClampNeg) = (3 : Int32) then ((f_X12_termOf n (uA q104 25 x1 (1 : Int32)) x1 x2).bind fun q136 => (if inB (st.2.1 19 ((((60 : Int32) * x1) + x2)).toNatClampNeg) 4200 = true then ((f_X12_term n q136.2 (70 : Int32) (0 : Int32) q136.1 (-1 : Int32) (-1 : Int32)).bind fun q159 => ((f_X12_comes n q159.2 (x1 + (1 : Int32)) (q136.2.2.1 1 ((st.2.1 19 ((((60 : Int32) * x1) + x2)).toNatClampNeg)).toNatClampNeg) q159.1 (st.2.1 24 (x1).toNatClampNeg)).bind fun q163 => (if q163.1 = 0 then (f_X12_going_231 n q163.2 (0 : Int32)) else (if inB (st.2.1 19 ((((60 : Int32) * x1) + x2)).toNatClampNeg) 4200 = true then ((f_X12_term n q163.2 (83 : Int32) (0 : Int32) q136.1 (-1 : Int32) (-1 : Int32)).bind fun q187 => ((f_X12_comes n q187.2 (x1 + (1 : Int32)) (q163.2.2.1 2 ((st.2.1 19 ((((60 : Int32) * x1) + x2)).toNatClampNeg)).toNatClampNeg) q187.1 (st.2.1 24 (x1).toNatClampNeg)).bind fun q191 => (if q191.1 = 0 then (f_X12_going_231 n q191.2 (0 : Int32)) else (f_X12_going_231 n q191.2 (1 : Int32))))) else none)))) else none)) else (if inB (st.2.1 19 ((((60 : Int32) * x1) + x2)).toNatClampNeg) 4200 = true then (if ((uA q104 25 x1 (1 : Int32)).2.1 0 ((st.2.1 19 ((((60 : Int32) * x1) + x2)).toNatClampNeg)).toNatClampNeg) = (5 : Int32) then ((f_X12_leading n (uA q104 25 x1 (1 : Int32)) x1 (x1 + (1 : Int32)) x2 (st.2.1 19 ((((60 : Int32) * x1) + x2)).toNatClampNeg) (st.2.1 24 (x1).toNatClampNeg)).bind fun q226 => (f_X12_going_231 n q226.2 q226.1)) else (f_X12_going_231 n (uA q104 25 x1 (1 : Int32)) (1 : Int32))) else none)) else none) else none)) else none)) else none) else none) else none
theorem wd1167 : Cond.methodLink RX12 379 yX12_leading ∈ Gw := gT8 (List.mem_of_getElem? (i := 137) rfl) rfl
theorem wd1168 : Cond.code yX12_leading prog_14_method_37_code 14 (some .boolean) ∈ Gw := gT8 (List.mem_of_getElem? (i := 140) rfl) rfl
theorem wd1169 : Cond.instanceMethod yX12_leading ∈ Gw := gT8 (List.mem_of_getElem? (i := 139) rfl) rfl
theorem wd1170 : Cond.selects RX12 yX12_leading yX12_leading ∈ Gw := gP8 (q := (yX12_leading, 98)) (List.mem_of_getElem? (i := 3) rfl)
section
variable {p : Program} {l : Launch} {e : Env} {R : Room} {s : State} {m : MethodId} {args : Array Value} {below : List Frame} {meth : Method} {c : Code} {H : Heap} {locs : List Loc} {Q : State → Prop}
variable {cc : ByteArray} {nL pc : Nat} {ls : Array Slot} {rest : List Value} {D : va_G} {A : Nat → Prop} {cw : Cond} {ad : Nat → Nat} {cy : Nat → ClassId} {ee : EE} {st : StT} {own : String}
theorem krX12_379_X12_leading {n : Nat} {a0 : Int32} {a1 : Int32} {a2 : Int32} {a3 : Int32} {a4 : Int32} {q : (Int32 × StT)} (F : CallFix p m c cc nL s args (cw :: Gw) RX12) (K : va_K D vwCl (tyL cy) s) (E : EV ee A s s.heap) (hA : ∀ q, s.heap.size ≤ q → A q) (Z : ZG D (wM ad cy st) A s H locs) (hf : f_X12_leading n st a0 a1 a2 a3 a4 = some q) (hR : 3 ≤ R.frames ∧ 81 ≤ R.locals) (hl : ls.size = nL) (hst : (rest.map fun v => v.category).sum ≤ 8) (hd : decode cc pc = .ok (.invokevirtual 379, 3)) (kk : ∀ (H1 : Heap) (locs1 : List Loc), ZG D (wM ad cy q.2) A s H1 locs1 → W p l e R s m args below meth c H1 locs1 0 0 Q (F0 m (pc + 3) ls (.int q.1 :: rest))) : W p l e R s m args below meth c H locs 0 0 Q (F0 m pc ls (.int a4 :: .int a3 :: .int a2 :: .int a1 :: .int a0 :: .ref (ad 0) :: rest)) :=
  call_V (q := (RX12, TX12, 98)) (n := 5) (As := [.int a0, .int a1, .int a2, .int a3, .int a4]) (rv := some (.int q.1)) 0 12 F K E hA Z (c_X12_leading (l := l) (D := D) (ad := ad) (cy := cy) (ee := ee) hf) ⟨wd1168, wd1167, wd1169, wd1170, wd1008⟩ (by decide +kernel) rfl rfl hR rfl hl hst hd kk
end
set_option maxRecDepth 100000 in
set_option maxHeartbeats 4000000 in
theorem b_X12_going_231 {p : Program} {l : Launch} {e : Env} {s : State} {m : MethodId} {args : Array Value} {below : List Frame} {meth : Method} {c : Code} {D : va_G} {A : Nat → Prop} {ad : Nat → Nat} {cy : Nat → ClassId} {ee : EE} {n : Nat} {res : (Int32 × StT)} (F : CallFix p m c cX12_going 8 s args (Cond.code yX12_going cX12_going 8 (some .int) :: Gw) yX12_going.cls) (hr : meth.sig.returnType = (some .int)) (hk : meth.locks = false) (K : va_K D vwCl (tyL cy) s) (E : EV ee A s s.heap) (hA : ∀ q, s.heap.size ≤ q → A q) : ∀ (st : StT) (x6 : Int32), f_X12_going_231 n st x6 = some res → ∀ (H : Heap) (locs : List Loc) (ls : Array Slot), ZG D (wM ad cy st) A s H locs → lv_has ls 8 [(0, .ref (ad 0)), (6, .int x6)] → W p l e { frames := 3, cells := 0, slots := 0, locals := 81 } s m args below meth c H locs 0 0 (MQ below (QC D (some (.int res.1)) (wM ad cy res.2) A) args s 0 0 A) (F0 m 231 ls []) := by
  have hx := F.1
  have hb := F.2.1
  intro st x6 hf H locs ls Z hl
  unfold f_X12_going_231 at hf
  refine lv_iload hx hb dX12_going_231 (lv_at hl 1 rfl) ?_
  refine lv_if_eq (tgt := 243) hx hb dX12_going_233 (by decide) (fun c233 => ?_) (fun c233 => ?_)
  · have hf := if_t c233 hf
    refine lv_iconst (v := 3) hx hb dX12_going_243 (by decide) ?_
    have hf := Option.some.inj hf
    subst hf
    exact ret_i F hr hk Z dX12_going_244
  have hf := if_f c233 hf
  refine lv_aload_n hx hb dX12_going_236 rfl (lv_at hl 0 rfl) ?_
  obtain ⟨q237, h237, hf⟩ := bind_some hf
  refine krX12_367_X12_begin F K E hA Z h237 ⟨Nat.le_of_ble_eq_true rfl, Nat.le_of_ble_eq_true rfl⟩ hl.1 (Nat.le_of_ble_eq_true rfl) dX12_going_237 (fun H locs Z => ?_)
  refine lv_goto (tgt := 244) hx hb dX12_going_240 (by decide) ?_
  have hf := Option.some.inj hf
  subst hf
  exact ret_i F hr hk Z dX12_going_244
set_option maxRecDepth 100000 in
set_option maxHeartbeats 4000000 in
theorem c_X12_going {l : Launch} {D : va_G} {ad : Nat → Nat} {cy : Nat → ClassId} {ee : EE} {n : Nat} {st : StT} {x1 : Int32} {x2 : Int32} {res : (Int32 × StT)} (hf : f_X12_going n st x1 x2 = some res) : CT l yX12_going cX12_going 8 (some .int) 3 81 D cy ee (wM ad cy st) (wM ad cy res.2) [.ref (ad 0), .int x1, .int x2] (some (.int res.1)) := by
  refine CT.of (by decide +kernel) (Nat.le_of_ble_eq_true rfl) ?_
  intro p e s m args below meth c A F hr hk K E hA Z ls hl
  have hl : lv_has ls 8 [(0, .ref (ad 0)), (1, .int x1), (2, .int x2)] := hl
  have hx := F.1
  have hb := F.2.1
  unfold f_X12_going at hf
  refine lv_aload_n hx hb dX12_going_0 rfl (lv_at hl 0 rfl) ?_
  refine gmX12_88 F K Z dX12_going_1 ?_
  refine lv_iload_n hx hb dX12_going_4 rfl (lv_at hl 1 rfl) ?_
  obtain ⟨i5, hf⟩ := if_some hf
  refine ml25 F K Z i5 dX12_going_5 ?_
  refine lv_istore_n (lv' := [(3, .int (st.2.1 24 (x1).toNatClampNeg)), (0, .ref (ad 0)), (1, .int x1), (2, .int x2)]) hx hb dX12_going_6 rfl hl (by decide) rfl (fun ls hl => ?_)
  refine lv_aload_n hx hb dX12_going_7 rfl (lv_at hl 1 rfl) ?_
  refine gmX12_73 F K Z dX12_going_8 ?_
  refine lv_bipush (v := 60) hx hb dX12_going_11 (by decide) ?_
  refine lv_iload_n hx hb dX12_going_13 rfl (lv_at hl 2 rfl) ?_
  refine lv_imul hx hb dX12_going_14 ?_
  refine lv_iload_n hx hb dX12_going_15 rfl (lv_at hl 3 rfl) ?_
  refine lv_iadd hx hb dX12_going_16 ?_
  obtain ⟨i17, hf⟩ := if_some hf
  refine ml20 F K Z i17 dX12_going_17 ?_
  refine lv_istore (lv' := [(4, .int (st.2.1 19 ((((60 : Int32) * x1) + x2)).toNatClampNeg)), (3, .int (st.2.1 24 (x1).toNatClampNeg)), (0, .ref (ad 0)), (1, .int x1), (2, .int x2)]) hx hb dX12_going_18 hl (by decide) rfl (fun ls hl => ?_)
  refine lv_aload_n hx hb dX12_going_20 rfl (lv_at hl 2 rfl) ?_
  refine gmX12_7 F K Z dX12_going_21 ?_
  refine lv_iload hx hb dX12_going_24 (lv_at hl 0 rfl) ?_
  obtain ⟨i26, hf⟩ := if_some hf
  refine ml1 F K Z i26 dX12_going_26 ?_
  refine lv_iconst (v := 4) hx hb dX12_going_27 (by decide) ?_
  refine lv_icmp_ne (tgt := 94) hx hb dX12_going_28 (by decide) (fun c28 => ?_) (fun c28 => ?_)
  · have hf := if_f c28 hf
    refine lv_aload_n hx hb dX12_going_94 rfl (lv_at hl 2 rfl) ?_
    refine lv_iload_n hx hb dX12_going_95 rfl (lv_at hl 3 rfl) ?_
    refine lv_iload_n hx hb dX12_going_96 rfl (lv_at hl 4 rfl) ?_
    refine lv_aload_n hx hb dX12_going_97 rfl (lv_at hl 2 rfl) ?_
    refine gmX12_85 F K Z dX12_going_98 ?_
    refine lv_iload_n hx hb dX12_going_101 rfl (lv_at hl 3 rfl) ?_
    obtain ⟨i102, hf⟩ := if_some hf
    refine ml24 F K Z i102 dX12_going_102 ?_
    refine lv_iload_n hx hb dX12_going_103 rfl (lv_at hl 1 rfl) ?_
    obtain ⟨q104, h104, hf⟩ := bind_some hf
    refine krX12_356_X12_within F K E hA Z h104 ⟨Nat.le_of_ble_eq_true rfl, Nat.le_of_ble_eq_true rfl⟩ hl.1 (Nat.le_of_ble_eq_true rfl) dX12_going_104 (fun H locs Z => ?_)
    refine lv_aload_n hx hb dX12_going_107 rfl (lv_at hl 2 rfl) ?_
    refine gmX12_91 F K Z dX12_going_108 ?_
    refine lv_iload_n hx hb dX12_going_111 rfl (lv_at hl 3 rfl) ?_
    refine lv_iconst (v := 1) hx hb dX12_going_112 (by decide) ?_
    obtain ⟨i113, hf⟩ := if_some hf
    refine ms26 F K Z i113 dX12_going_113 (fun H locs Z => ?_)
    refine lv_iload_n hx hb dX12_going_114 rfl (lv_at hl 3 rfl) ?_
    refine lv_iconst (v := 1) hx hb dX12_going_115 (by decide) ?_
    refine lv_iadd hx hb dX12_going_116 ?_
    refine lv_istore (lv' := [(5, .int (x1 + (1 : Int32))), (4, .int (st.2.1 19 ((((60 : Int32) * x1) + x2)).toNatClampNeg)), (3, .int (st.2.1 24 (x1).toNatClampNeg)), (0, .ref (ad 0)), (1, .int x1), (2, .int x2)]) hx hb dX12_going_117 hl (by decide) rfl (fun ls hl => ?_)
    refine lv_iconst (v := 1) hx hb dX12_going_119 (by decide) ?_
    refine lv_istore (lv' := [(6, .int (1 : Int32)), (5, .int (x1 + (1 : Int32))), (4, .int (st.2.1 19 ((((60 : Int32) * x1) + x2)).toNatClampNeg)), (3, .int (st.2.1 24 (x1).toNatClampNeg)), (0, .ref (ad 0)), (1, .int x1), (2, .int x2)]) hx hb dX12_going_120 hl (by decide) rfl (fun ls hl => ?_)
    refine lv_aload_n hx hb dX12_going_122 rfl (lv_at hl 4 rfl) ?_
    refine gmX12_7 F K Z dX12_going_123 ?_
    refine lv_iload hx hb dX12_going_126 (lv_at hl 2 rfl) ?_
    obtain ⟨i128, hf⟩ := if_some hf
    refine ml1 F K Z i128 dX12_going_128 ?_
    refine lv_iconst (v := 3) hx hb dX12_going_129 (by decide) ?_
    refine lv_icmp_ne (tgt := 207) hx hb dX12_going_130 (by decide) (fun c130 => ?_) (fun c130 => ?_)
    · have hf := if_f c130 hf
      refine lv_aload_n hx hb dX12_going_207 rfl (lv_at hl 4 rfl) ?_
      refine gmX12_7 F K Z dX12_going_208 ?_
      refine lv_iload hx hb dX12_going_211 (lv_at hl 2 rfl) ?_
      obtain ⟨i213, hf⟩ := if_some hf
      refine ml1 F K Z i213 dX12_going_213 ?_
      refine lv_iconst (v := 5) hx hb dX12_going_214 (by decide) ?_
      refine lv_icmp_ne (tgt := 231) hx hb dX12_going_215 (by decide) (fun c215 => ?_) (fun c215 => ?_)
      · have hf := if_f c215 hf
        exact b_X12_going_231 F hr hk K E hA _ _ hf _ _ _ Z (lv_sub hl [4, 0] rfl)
      have hf := if_t c215 hf
      refine lv_aload_n hx hb dX12_going_218 rfl (lv_at hl 4 rfl) ?_
      refine lv_iload_n hx hb dX12_going_219 rfl (lv_at hl 5 rfl) ?_
      refine lv_iload hx hb dX12_going_220 (lv_at hl 1 rfl) ?_
      refine lv_iload_n hx hb dX12_going_222 rfl (lv_at hl 6 rfl) ?_
      refine lv_iload hx hb dX12_going_223 (lv_at hl 2 rfl) ?_
      refine lv_iload_n hx hb dX12_going_225 rfl (lv_at hl 3 rfl) ?_
      obtain ⟨q226, h226, hf⟩ := bind_some hf
      refine krX12_379_X12_leading F K E hA Z h226 ⟨Nat.le_of_ble_eq_true rfl, Nat.le_of_ble_eq_true rfl⟩ hl.1 (Nat.le_of_ble_eq_true rfl) dX12_going_226 (fun H locs Z => ?_)
      refine lv_istore (lv' := [(6, .int q226.1), (5, .int (x1 + (1 : Int32))), (4, .int (st.2.1 19 ((((60 : Int32) * x1) + x2)).toNatClampNeg)), (3, .int (st.2.1 24 (x1).toNatClampNeg)), (0, .ref (ad 0)), (1, .int x1), (2, .int x2)]) hx hb dX12_going_229 hl (by decide) rfl (fun ls hl => ?_)
      exact b_X12_going_231 F hr hk K E hA _ _ hf _ _ _ Z (lv_sub hl [4, 0] rfl)
    have hf := if_t c130 hf
    refine lv_aload_n hx hb dX12_going_133 rfl (lv_at hl 4 rfl) ?_
    refine lv_iload_n hx hb dX12_going_134 rfl (lv_at hl 5 rfl) ?_
    refine lv_iload_n hx hb dX12_going_135 rfl (lv_at hl 6 rfl) ?_
    obtain ⟨q136, h136, hf⟩ := bind_some hf
    refine krX12_350_X12_termOf F K E hA Z h136 ⟨Nat.le_of_ble_eq_true rfl, Nat.le_of_ble_eq_true rfl⟩ hl.1 (Nat.le_of_ble_eq_true rfl) dX12_going_136 (fun H locs Z => ?_)
    refine lv_istore (lv' := [(7, .int q136.1), (6, .int (1 : Int32)), (5, .int (x1 + (1 : Int32))), (4, .int (st.2.1 19 ((((60 : Int32) * x1) + x2)).toNatClampNeg)), (3, .int (st.2.1 24 (x1).toNatClampNeg)), (0, .ref (ad 0)), (1, .int x1), (2, .int x2)]) hx hb dX12_going_139 hl (by decide) rfl (fun ls hl => ?_)
    refine lv_aload_n hx hb dX12_going_141 rfl (lv_at hl 5 rfl) ?_
    refine lv_iload hx hb dX12_going_142 (lv_at hl 2 rfl) ?_
    refine lv_aload_n hx hb dX12_going_144 rfl (lv_at hl 5 rfl) ?_
    refine gmX12_13 F K Z dX12_going_145 ?_
    refine lv_iload hx hb dX12_going_148 (lv_at hl 3 rfl) ?_
    obtain ⟨i150, hf⟩ := if_some hf
    refine ml2 F K Z i150 dX12_going_150 ?_
    refine lv_aload_n hx hb dX12_going_151 rfl (lv_at hl 5 rfl) ?_
    refine lv_bipush (v := 70) hx hb dX12_going_152 (by decide) ?_
    refine lv_iconst (v := 0) hx hb dX12_going_154 (by decide) ?_
    refine lv_iload hx hb dX12_going_155 (lv_at hl 0 rfl) ?_
    refine lv_iconst (v := -1) hx hb dX12_going_157 (by decide) ?_
    refine lv_iconst (v := -1) hx hb dX12_going_158 (by decide) ?_
    obtain ⟨q159, h159, hf⟩ := bind_some hf
    refine krX12_318_X12_term F K E hA Z h159 ⟨Nat.le_of_ble_eq_true rfl, Nat.le_of_ble_eq_true rfl⟩ hl.1 (Nat.le_of_ble_eq_true rfl) dX12_going_159 (fun H locs Z => ?_)
    refine lv_iload_n hx hb dX12_going_162 rfl (lv_at hl 4 rfl) ?_
    obtain ⟨q163, h163, hf⟩ := bind_some hf
    refine krX12_363_X12_comes F K E hA Z h163 ⟨Nat.le_of_ble_eq_true rfl, Nat.le_of_ble_eq_true rfl⟩ hl.1 (Nat.le_of_ble_eq_true rfl) dX12_going_163 (fun H locs Z => ?_)
    refine lv_if_eq (tgt := 201) hx hb dX12_going_166 (by decide) (fun c166 => ?_) (fun c166 => ?_)
    · have hf := if_t c166 hf
      refine lv_iconst (v := 0) hx hb dX12_going_201 (by decide) ?_
      refine lv_istore (lv' := [(6, .int (0 : Int32)), (7, .int q136.1), (5, .int (x1 + (1 : Int32))), (4, .int (st.2.1 19 ((((60 : Int32) * x1) + x2)).toNatClampNeg)), (3, .int (st.2.1 24 (x1).toNatClampNeg)), (0, .ref (ad 0)), (1, .int x1), (2, .int x2)]) hx hb dX12_going_202 hl (by decide) rfl (fun ls hl => ?_)
      refine lv_goto (tgt := 231) hx hb dX12_going_204 (by decide) ?_
      exact b_X12_going_231 F hr hk K E hA _ _ hf _ _ _ Z (lv_sub hl [5, 0] rfl)
    have hf := if_f c166 hf
    refine lv_aload_n hx hb dX12_going_169 rfl (lv_at hl 5 rfl) ?_
    refine lv_iload hx hb dX12_going_170 (lv_at hl 2 rfl) ?_
    refine lv_aload_n hx hb dX12_going_172 rfl (lv_at hl 5 rfl) ?_
    refine gmX12_16 F K Z dX12_going_173 ?_
    refine lv_iload hx hb dX12_going_176 (lv_at hl 3 rfl) ?_
    obtain ⟨i178, hf⟩ := if_some hf
    refine ml3 F K Z i178 dX12_going_178 ?_
    refine lv_aload_n hx hb dX12_going_179 rfl (lv_at hl 5 rfl) ?_
    refine lv_bipush (v := 83) hx hb dX12_going_180 (by decide) ?_
    refine lv_iconst (v := 0) hx hb dX12_going_182 (by decide) ?_
    refine lv_iload hx hb dX12_going_183 (lv_at hl 0 rfl) ?_
    refine lv_iconst (v := -1) hx hb dX12_going_185 (by decide) ?_
    refine lv_iconst (v := -1) hx hb dX12_going_186 (by decide) ?_
    obtain ⟨q187, h187, hf⟩ := bind_some hf
    refine krX12_318_X12_term F K E hA Z h187 ⟨Nat.le_of_ble_eq_true rfl, Nat.le_of_ble_eq_true rfl⟩ hl.1 (Nat.le_of_ble_eq_true rfl) dX12_going_187 (fun H locs Z => ?_)
    refine lv_iload_n hx hb dX12_going_190 rfl (lv_at hl 4 rfl) ?_
    obtain ⟨q191, h191, hf⟩ := bind_some hf
    refine krX12_363_X12_comes F K E hA Z h191 ⟨Nat.le_of_ble_eq_true rfl, Nat.le_of_ble_eq_true rfl⟩ hl.1 (Nat.le_of_ble_eq_true rfl) dX12_going_191 (fun H locs Z => ?_)
    refine lv_if_eq (tgt := 201) hx hb dX12_going_194 (by decide) (fun c194 => ?_) (fun c194 => ?_)
    · have hf := if_t c194 hf
      refine lv_iconst (v := 0) hx hb dX12_going_201 (by decide) ?_
      refine lv_istore (lv' := [(6, .int (0 : Int32)), (7, .int q136.1), (5, .int (x1 + (1 : Int32))), (4, .int (st.2.1 19 ((((60 : Int32) * x1) + x2)).toNatClampNeg)), (3, .int (st.2.1 24 (x1).toNatClampNeg)), (0, .ref (ad 0)), (1, .int x1), (2, .int x2)]) hx hb dX12_going_202 hl (by decide) rfl (fun ls hl => ?_)
      refine lv_goto (tgt := 231) hx hb dX12_going_204 (by decide) ?_
      exact b_X12_going_231 F hr hk K E hA _ _ hf _ _ _ Z (lv_sub hl [5, 0] rfl)
    have hf := if_f c194 hf
    refine lv_iconst (v := 1) hx hb dX12_going_197 (by decide) ?_
    refine lv_goto (tgt := 202) hx hb dX12_going_198 (by decide) ?_
    refine lv_istore (lv' := [(6, .int (1 : Int32)), (7, .int q136.1), (5, .int (x1 + (1 : Int32))), (4, .int (st.2.1 19 ((((60 : Int32) * x1) + x2)).toNatClampNeg)), (3, .int (st.2.1 24 (x1).toNatClampNeg)), (0, .ref (ad 0)), (1, .int x1), (2, .int x2)]) hx hb dX12_going_202 hl (by decide) rfl (fun ls hl => ?_)
    refine lv_goto (tgt := 231) hx hb dX12_going_204 (by decide) ?_
    exact b_X12_going_231 F hr hk K E hA _ _ hf _ _ _ Z (lv_sub hl [5, 0] rfl)
  have hf := if_t c28 hf
  refine lv_aload_n hx hb dX12_going_31 rfl (lv_at hl 2 rfl) ?_
  refine gmX12_94 F K Z dX12_going_32 ?_
  refine lv_iload_n hx hb dX12_going_35 rfl (lv_at hl 3 rfl) ?_
  refine lv_iload_n hx hb dX12_going_36 rfl (lv_at hl 4 rfl) ?_
  obtain ⟨i37, hf⟩ := if_some hf
  refine ms27 F K Z i37 dX12_going_37 (fun H locs Z => ?_)
  refine lv_aload_n hx hb dX12_going_38 rfl (lv_at hl 2 rfl) ?_
  refine lv_iload_n hx hb dX12_going_39 rfl (lv_at hl 3 rfl) ?_
  refine lv_iload_n hx hb dX12_going_40 rfl (lv_at hl 4 rfl) ?_
  refine lv_aload_n hx hb dX12_going_41 rfl (lv_at hl 2 rfl) ?_
  refine gmX12_85 F K Z dX12_going_42 ?_
  refine lv_iload_n hx hb dX12_going_45 rfl (lv_at hl 3 rfl) ?_
  obtain ⟨i46, hf⟩ := if_some hf
  refine ml24 F K Z i46 dX12_going_46 ?_
  refine lv_iload_n hx hb dX12_going_47 rfl (lv_at hl 1 rfl) ?_
  refine lv_iconst (v := 1) hx hb dX12_going_48 (by decide) ?_
  refine lv_iadd hx hb dX12_going_49 ?_
  obtain ⟨q50, h50, hf⟩ := bind_some hf
  refine krX12_356_X12_within F K E hA Z h50 ⟨Nat.le_of_ble_eq_true rfl, Nat.le_of_ble_eq_true rfl⟩ hl.1 (Nat.le_of_ble_eq_true rfl) dX12_going_50 (fun H locs Z => ?_)
  refine lv_aload_n hx hb dX12_going_53 rfl (lv_at hl 2 rfl) ?_
  refine gmX12_91 F K Z dX12_going_54 ?_
  refine lv_iload_n hx hb dX12_going_57 rfl (lv_at hl 3 rfl) ?_
  refine lv_iconst (v := 5) hx hb dX12_going_58 (by decide) ?_
  obtain ⟨i59, hf⟩ := if_some hf
  refine ms26 F K Z i59 dX12_going_59 (fun H locs Z => ?_)
  refine lv_aload_n hx hb dX12_going_60 rfl (lv_at hl 2 rfl) ?_
  refine lv_iload_n hx hb dX12_going_61 rfl (lv_at hl 3 rfl) ?_
  refine lv_iconst (v := 1) hx hb dX12_going_62 (by decide) ?_
  refine lv_iadd hx hb dX12_going_63 ?_
  refine lv_aload_n hx hb dX12_going_64 rfl (lv_at hl 2 rfl) ?_
  refine gmX12_13 F K Z dX12_going_65 ?_
  refine lv_iload hx hb dX12_going_68 (lv_at hl 0 rfl) ?_
  obtain ⟨i70, hf⟩ := if_some hf
  refine ml2 F K Z i70 dX12_going_70 ?_
  refine lv_aload_n hx hb dX12_going_71 rfl (lv_at hl 2 rfl) ?_
  refine lv_iload_n hx hb dX12_going_72 rfl (lv_at hl 1 rfl) ?_
  obtain ⟨q73, h73, hf⟩ := bind_some hf
  refine krX12_360_X12_hypothesis F K E hA Z h73 ⟨Nat.le_of_ble_eq_true rfl, Nat.le_of_ble_eq_true rfl⟩ hl.1 (Nat.le_of_ble_eq_true rfl) dX12_going_73 (fun H locs Z => ?_)
  refine lv_iload_n hx hb dX12_going_76 rfl (lv_at hl 1 rfl) ?_
  refine lv_iconst (v := 1) hx hb dX12_going_77 (by decide) ?_
  refine lv_iadd hx hb dX12_going_78 ?_
  obtain ⟨q79, h79, hf⟩ := bind_some hf
  refine krX12_363_X12_comes F K E hA Z h79 ⟨Nat.le_of_ble_eq_true rfl, Nat.le_of_ble_eq_true rfl⟩ hl.1 (Nat.le_of_ble_eq_true rfl) dX12_going_79 (fun H locs Z => ?_)
  refine lv_if_eq (tgt := 92) hx hb dX12_going_82 (by decide) (fun c82 => ?_) (fun c82 => ?_)
  · have hf := if_t c82 hf
    refine lv_iconst (v := 3) hx hb dX12_going_92 (by decide) ?_
    have hf := Option.some.inj hf
    subst hf
    exact ret_i F hr hk Z dX12_going_93
  have hf := if_f c82 hf
  refine lv_aload_n hx hb dX12_going_85 rfl (lv_at hl 2 rfl) ?_
  obtain ⟨q86, h86, hf⟩ := bind_some hf
  refine krX12_367_X12_begin F K E hA Z h86 ⟨Nat.le_of_ble_eq_true rfl, Nat.le_of_ble_eq_true rfl⟩ hl.1 (Nat.le_of_ble_eq_true rfl) dX12_going_86 (fun H locs Z => ?_)
  refine lv_goto (tgt := 93) hx hb dX12_going_89 (by decide) ?_
  have hf := Option.some.inj hf
  subst hf
  exact ret_i F hr hk Z dX12_going_93
def f_X12_opened_226 (n : Nat) (st : StT) (x1 : Int32) (x2 : Int32) (x3 : Int32) (x4 : Int32) : Option (Int32 × StT) := if inB x1 201 = true then (if (st.2.1 22 (x1).toNatClampNeg) ≤ x3 then (if inB x4 4200 = true then (if (st.2.1 0 (x4).toNatClampNeg) = (4 : Int32) then (if inB x4 4200 = true then ((f_X12_within n st x1 (-1 : Int32) (st.2.1 1 (x4).toNatClampNeg) x2).bind fun q265 => (if inB x1 201 = true then ((f_X12_begin n (uA q265 25 x1 (7 : Int32))).bind fun q277 => (some (q277.1, q277.2))) else none)) else none) else ((f_X12_needs n st x1 (0 : Int32)).bind fun q284 => (some (q284.1, q284.2)))) else none) else ((f_X12_going n st x1 x3).bind fun q239 => (some (q239.1, q239.2)))) else none
def f_X12_opened_201 (n : Nat) : Nat → StT → Int32 → Int32 → Int32 → Int32 → Option (Int32 × StT)
  | 0, _, _, _, _, _ => none
  | k + 1, st, x1, x2, x3, x4 => if inB x1 201 = true then (if (st.2.1 22 (x1).toNatClampNeg) ≤ x3 then (f_X12_opened_226 n st x1 x2 x3 x4) else ((f_X12_isGoing n st x1 x3).bind fun q214 => (if q214.1 = 0 then (f_X12_opened_201 n k q214.2 x1 x2 (x3 + (1 : Int32)) x4) else (f_X12_opened_226 n q214.2 x1 x2 x3 x4)))) else none
def f_X12_opened (n : Nat) (st : StT) (x1 : Int32) : Option (Int32 × StT) := if inB x1 201 = true then (if inB x1 201 = true then ((f_X12_findLeft n st x1 (st.2.1 23 (x1).toNatClampNeg)).bind fun q15 => (if q15.1 < 0 then ((f_X12_findLeft n q15.2 x1 (0 : Int32)).bind fun q37 => (if q37.1 < 0 then (if inB x1 201 = true then (if (q37.2.2.1 23 (x1).toNatClampNeg) = (1 : Int32) then ((f_X12_term n q37.2 (84 : Int32) (0 : Int32) (-1 : Int32) (-1 : Int32) (-1 : Int32)).bind fun q87 => ((f_X12_proved n q87.2 q87.1).bind fun q90 => (some (q90.1, q90.2)))) else (if inB (q37.2.2.1 23 (x1).toNatClampNeg) 4200 = true then (if (q37.2.2.1 0 ((q37.2.2.1 23 (x1).toNatClampNeg)).toNatClampNeg) = (5 : Int32) then (if inB (q37.2.2.1 23 (x1).toNatClampNeg) 4200 = true then ((f_X12_within n q37.2 x1 (-1 : Int32) (q37.2.2.1 2 ((q37.2.2.1 23 (x1).toNatClampNeg)).toNatClampNeg) ((st.2.1 24 (x1).toNatClampNeg) + (1 : Int32))).bind fun q118 => (if inB x1 201 = true then (if inB (q37.2.2.1 23 (x1).toNatClampNeg) 4200 = true then ((f_X12_hypothesis n (uA q118 25 x1 (2 : Int32)) (st.2.1 24 (x1).toNatClampNeg)).bind fun q141 => ((f_X12_comes n q141.2 (x1 + (1 : Int32)) ((uA q118 25 x1 (2 : Int32)).2.1 1 ((q37.2.2.1 23 (x1).toNatClampNeg)).toNatClampNeg) q141.1 ((st.2.1 24 (x1).toNatClampNeg) + (1 : Int32))).bind fun q147 => (if q147.1 = 0 then (some ((3 : Int32), q147.2)) else ((f_X12_begin n q147.2).bind fun q154 => (some (q154.1, q154.2)))))) else none) else none)) else none) else (if inB (q37.2.2.1 23 (x1).toNatClampNeg) 4200 = true then (if (q37.2.2.1 0 ((q37.2.2.1 23 (x1).toNatClampNeg)).toNatClampNeg) = (3 : Int32) then (if inB (q37.2.2.1 23 (x1).toNatClampNeg) 4200 = true then ((f_X12_within n q37.2 x1 (-1 : Int32) (q37.2.2.1 1 ((q37.2.2.1 23 (x1).toNatClampNeg)).toNatClampNeg) (st.2.1 24 (x1).toNatClampNeg)).bind fun q184 => (if inB x1 201 = true then ((f_X12_begin n (uA q184 25 x1 (3 : Int32))).bind fun q195 => (some (q195.1, q195.2))) else none)) else none) else (f_X12_opened_201 n n q37.2 x1 (st.2.1 24 (x1).toNatClampNeg) (0 : Int32) (q37.2.2.1 23 (x1).toNatClampNeg))) else none)) else none)) else none) else ((f_X12_termOf n q37.2 x1 q37.1).bind fun q53 => ((f_X12_term n q53.2 (88 : Int32) (0 : Int32) q53.1 (-1 : Int32) (-1 : Int32)).bind fun q58 => ((f_X12_proved n q58.2 q58.1).bind fun q61 => (some (q61.1, q61.2))))))) else ((f_X12_termOf n q15.2 x1 q15.1).bind fun q27 => ((f_X12_proved n q27.2 q27.1).bind fun q30 => (some (q30.1, q30.2)))))) else none) else none
theorem wd1171 : Cond.methodLink RX12 353 yX12_proved ∈ Gw := gT8 (List.mem_of_getElem? (i := 121) rfl) rfl
theorem wd1172 : Cond.code yX12_proved prog_14_method_33_code 2 (some .int) ∈ Gw := gT8 (List.mem_of_getElem? (i := 124) rfl) rfl
theorem wd1173 : Cond.instanceMethod yX12_proved ∈ Gw := gT8 (List.mem_of_getElem? (i := 123) rfl) rfl
theorem wd1174 : Cond.selects RX12 yX12_proved yX12_proved ∈ Gw := gP7 (q := (yX12_proved, 98)) (List.mem_of_getElem? (i := 15) rfl)
theorem wd1175 : Cond.methodLink RX12 370 yX12_isGoing ∈ Gw := gT8 (List.mem_of_getElem? (i := 129) rfl) rfl
theorem wd1176 : Cond.code yX12_isGoing prog_14_method_34_code 6 (some .boolean) ∈ Gw := gT8 (List.mem_of_getElem? (i := 132) rfl) rfl
theorem wd1177 : Cond.instanceMethod yX12_isGoing ∈ Gw := gT8 (List.mem_of_getElem? (i := 131) rfl) rfl
theorem wd1178 : Cond.selects RX12 yX12_isGoing yX12_isGoing ∈ Gw := gP8 (q := (yX12_isGoing, 98)) (List.mem_of_getElem? (i := 1) rfl)
theorem wd1179 : Cond.methodLink RX12 376 yX12_needs ∈ Gw := gT8 (List.mem_of_getElem? (i := 141) rfl) rfl
theorem wd1180 : Cond.code yX12_needs prog_14_method_39_code 13 (some .int) ∈ Gw := gT8 (List.mem_of_getElem? (i := 144) rfl) rfl
theorem wd1181 : Cond.instanceMethod yX12_needs ∈ Gw := gT8 (List.mem_of_getElem? (i := 143) rfl) rfl
theorem wd1182 : Cond.selects RX12 yX12_needs yX12_needs ∈ Gw := gP8 (q := (yX12_needs, 98)) (List.mem_of_getElem? (i := 4) rfl)
theorem wd1183 : Cond.methodLink RX12 373 yX12_going ∈ Gw := gT8 (List.mem_of_getElem? (i := 133) rfl) rfl
theorem wd1184 : Cond.code yX12_going prog_14_method_36_code 8 (some .int) ∈ Gw := gT8 (List.mem_of_getElem? (i := 136) rfl) rfl
theorem wd1185 : Cond.instanceMethod yX12_going ∈ Gw := gT8 (List.mem_of_getElem? (i := 135) rfl) rfl
theorem wd1186 : Cond.selects RX12 yX12_going yX12_going ∈ Gw := gP8 (q := (yX12_going, 98)) (List.mem_of_getElem? (i := 2) rfl)
section
variable {p : Program} {l : Launch} {e : Env} {R : Room} {s : State} {m : MethodId} {args : Array Value} {below : List Frame} {meth : Method} {c : Code} {H : Heap} {locs : List Loc} {Q : State → Prop}
variable {cc : ByteArray} {nL pc : Nat} {ls : Array Slot} {rest : List Value} {D : va_G} {A : Nat → Prop} {cw : Cond} {ad : Nat → Nat} {cy : Nat → ClassId} {ee : EE} {st : StT} {own : String}
theorem krX12_353_X12_proved {n : Nat} {a0 : Int32} {q : (Int32 × StT)} (F : CallFix p m c cc nL s args (cw :: Gw) RX12) (K : va_K D vwCl (tyL cy) s) (E : EV ee A s s.heap) (hA : ∀ q, s.heap.size ≤ q → A q) (Z : ZG D (wM ad cy st) A s H locs) (hf : f_X12_proved n st a0 = some q) (hR : 1 ≤ R.frames ∧ 21 ≤ R.locals) (hl : ls.size = nL) (hst : (rest.map fun v => v.category).sum ≤ 8) (hd : decode cc pc = .ok (.invokevirtual 353, 3)) (kk : ∀ (H1 : Heap) (locs1 : List Loc), ZG D (wM ad cy q.2) A s H1 locs1 → W p l e R s m args below meth c H1 locs1 0 0 Q (F0 m (pc + 3) ls (.int q.1 :: rest))) : W p l e R s m args below meth c H locs 0 0 Q (F0 m pc ls (.int a0 :: .ref (ad 0) :: rest)) :=
  call_V (q := (RX12, TX12, 98)) (n := 1) (As := [.int a0]) (rv := some (.int q.1)) 0 12 F K E hA Z (c_X12_proved (l := l) (D := D) (ad := ad) (cy := cy) (ee := ee) hf) ⟨wd1172, wd1171, wd1173, wd1174, wd1008⟩ (by decide +kernel) rfl rfl hR rfl hl hst hd kk
theorem krX12_370_X12_isGoing {n : Nat} {a0 : Int32} {a1 : Int32} {q : (Int32 × StT)} (F : CallFix p m c cc nL s args (cw :: Gw) RX12) (K : va_K D vwCl (tyL cy) s) (E : EV ee A s s.heap) (hA : ∀ q, s.heap.size ≤ q → A q) (Z : ZG D (wM ad cy st) A s H locs) (hf : f_X12_isGoing n st a0 a1 = some q) (hR : 2 ≤ R.frames ∧ 48 ≤ R.locals) (hl : ls.size = nL) (hst : (rest.map fun v => v.category).sum ≤ 8) (hd : decode cc pc = .ok (.invokevirtual 370, 3)) (kk : ∀ (H1 : Heap) (locs1 : List Loc), ZG D (wM ad cy q.2) A s H1 locs1 → W p l e R s m args below meth c H1 locs1 0 0 Q (F0 m (pc + 3) ls (.int q.1 :: rest))) : W p l e R s m args below meth c H locs 0 0 Q (F0 m pc ls (.int a1 :: .int a0 :: .ref (ad 0) :: rest)) :=
  call_V (q := (RX12, TX12, 98)) (n := 2) (As := [.int a0, .int a1]) (rv := some (.int q.1)) 0 12 F K E hA Z (c_X12_isGoing (l := l) (D := D) (ad := ad) (cy := cy) (ee := ee) hf) ⟨wd1176, wd1175, wd1177, wd1178, wd1008⟩ (by decide +kernel) rfl rfl hR rfl hl hst hd kk
theorem krX12_376_X12_needs {n : Nat} {a0 : Int32} {a1 : Int32} {q : (Int32 × StT)} (F : CallFix p m c cc nL s args (cw :: Gw) RX12) (K : va_K D vwCl (tyL cy) s) (E : EV ee A s s.heap) (hA : ∀ q, s.heap.size ≤ q → A q) (Z : ZG D (wM ad cy st) A s H locs) (hf : f_X12_needs n st a0 a1 = some q) (hR : 3 ≤ R.frames ∧ 80 ≤ R.locals) (hl : ls.size = nL) (hst : (rest.map fun v => v.category).sum ≤ 8) (hd : decode cc pc = .ok (.invokevirtual 376, 3)) (kk : ∀ (H1 : Heap) (locs1 : List Loc), ZG D (wM ad cy q.2) A s H1 locs1 → W p l e R s m args below meth c H1 locs1 0 0 Q (F0 m (pc + 3) ls (.int q.1 :: rest))) : W p l e R s m args below meth c H locs 0 0 Q (F0 m pc ls (.int a1 :: .int a0 :: .ref (ad 0) :: rest)) :=
  call_V (q := (RX12, TX12, 98)) (n := 2) (As := [.int a0, .int a1]) (rv := some (.int q.1)) 0 12 F K E hA Z (c_X12_needs (l := l) (D := D) (ad := ad) (cy := cy) (ee := ee) hf) ⟨wd1180, wd1179, wd1181, wd1182, wd1008⟩ (by decide +kernel) rfl rfl hR rfl hl hst hd kk
theorem krX12_373_X12_going {n : Nat} {a0 : Int32} {a1 : Int32} {q : (Int32 × StT)} (F : CallFix p m c cc nL s args (cw :: Gw) RX12) (K : va_K D vwCl (tyL cy) s) (E : EV ee A s s.heap) (hA : ∀ q, s.heap.size ≤ q → A q) (Z : ZG D (wM ad cy st) A s H locs) (hf : f_X12_going n st a0 a1 = some q) (hR : 4 ≤ R.frames ∧ 108 ≤ R.locals) (hl : ls.size = nL) (hst : (rest.map fun v => v.category).sum ≤ 8) (hd : decode cc pc = .ok (.invokevirtual 373, 3)) (kk : ∀ (H1 : Heap) (locs1 : List Loc), ZG D (wM ad cy q.2) A s H1 locs1 → W p l e R s m args below meth c H1 locs1 0 0 Q (F0 m (pc + 3) ls (.int q.1 :: rest))) : W p l e R s m args below meth c H locs 0 0 Q (F0 m pc ls (.int a1 :: .int a0 :: .ref (ad 0) :: rest)) :=
  call_V (q := (RX12, TX12, 98)) (n := 2) (As := [.int a0, .int a1]) (rv := some (.int q.1)) 0 12 F K E hA Z (c_X12_going (l := l) (D := D) (ad := ad) (cy := cy) (ee := ee) hf) ⟨wd1184, wd1183, wd1185, wd1186, wd1008⟩ (by decide +kernel) rfl rfl hR rfl hl hst hd kk
end
set_option maxRecDepth 100000 in
set_option maxHeartbeats 4000000 in
theorem b_X12_opened_226 {p : Program} {l : Launch} {e : Env} {s : State} {m : MethodId} {args : Array Value} {below : List Frame} {meth : Method} {c : Code} {D : va_G} {A : Nat → Prop} {ad : Nat → Nat} {cy : Nat → ClassId} {ee : EE} {n : Nat} {res : (Int32 × StT)} (F : CallFix p m c cX12_opened 5 s args (Cond.code yX12_opened cX12_opened 5 (some .int) :: Gw) yX12_opened.cls) (hr : meth.sig.returnType = (some .int)) (hk : meth.locks = false) (K : va_K D vwCl (tyL cy) s) (E : EV ee A s s.heap) (hA : ∀ q, s.heap.size ≤ q → A q) : ∀ (st : StT) (x1 : Int32) (x2 : Int32) (x3 : Int32) (x4 : Int32), f_X12_opened_226 n st x1 x2 x3 x4 = some res → ∀ (H : Heap) (locs : List Loc) (ls : Array Slot), ZG D (wM ad cy st) A s H locs → lv_has ls 5 [(0, .ref (ad 0)), (1, .int x1), (2, .int x2), (3, .int x3), (4, .int x4)] → W p l e { frames := 4, cells := 0, slots := 0, locals := 108 } s m args below meth c H locs 0 0 (MQ below (QC D (some (.int res.1)) (wM ad cy res.2) A) args s 0 0 A) (F0 m 226 ls []) := by
  have hx := F.1
  have hb := F.2.1
  intro st x1 x2 x3 x4 hf H locs ls Z hl
  unfold f_X12_opened_226 at hf
  refine lv_iload_n hx hb dX12_opened_226 rfl (lv_at hl 3 rfl) ?_
  refine lv_aload_n hx hb dX12_opened_227 rfl (lv_at hl 0 rfl) ?_
  refine gmX12_82 F K Z dX12_opened_228 ?_
  refine lv_iload_n hx hb dX12_opened_231 rfl (lv_at hl 1 rfl) ?_
  obtain ⟨i232, hf⟩ := if_some hf
  refine ml23 F K Z i232 dX12_opened_232 ?_
  refine lv_icmp_ge (tgt := 243) hx hb dX12_opened_233 (by decide) (fun c233 => ?_) (fun c233 => ?_)
  · have hf := if_t c233 hf
    refine lv_aload_n hx hb dX12_opened_243 rfl (lv_at hl 0 rfl) ?_
    refine gmX12_7 F K Z dX12_opened_244 ?_
    refine lv_iload hx hb dX12_opened_247 (lv_at hl 4 rfl) ?_
    obtain ⟨i249, hf⟩ := if_some hf
    refine ml1 F K Z i249 dX12_opened_249 ?_
    refine lv_iconst (v := 4) hx hb dX12_opened_250 (by decide) ?_
    refine lv_icmp_ne (tgt := 281) hx hb dX12_opened_251 (by decide) (fun c251 => ?_) (fun c251 => ?_)
    · have hf := if_f c251 hf
      refine lv_aload_n hx hb dX12_opened_281 rfl (lv_at hl 0 rfl) ?_
      refine lv_iload_n hx hb dX12_opened_282 rfl (lv_at hl 1 rfl) ?_
      refine lv_iconst (v := 0) hx hb dX12_opened_283 (by decide) ?_
      obtain ⟨q284, h284, hf⟩ := bind_some hf
      refine krX12_376_X12_needs F K E hA Z h284 ⟨Nat.le_of_ble_eq_true rfl, Nat.le_of_ble_eq_true rfl⟩ hl.1 (Nat.le_of_ble_eq_true rfl) dX12_opened_284 (fun H locs Z => ?_)
      have hf := Option.some.inj hf
      subst hf
      exact ret_i F hr hk Z dX12_opened_287
    have hf := if_t c251 hf
    refine lv_aload_n hx hb dX12_opened_254 rfl (lv_at hl 0 rfl) ?_
    refine lv_iload_n hx hb dX12_opened_255 rfl (lv_at hl 1 rfl) ?_
    refine lv_iconst (v := -1) hx hb dX12_opened_256 (by decide) ?_
    refine lv_aload_n hx hb dX12_opened_257 rfl (lv_at hl 0 rfl) ?_
    refine gmX12_13 F K Z dX12_opened_258 ?_
    refine lv_iload hx hb dX12_opened_261 (lv_at hl 4 rfl) ?_
    obtain ⟨i263, hf⟩ := if_some hf
    refine ml2 F K Z i263 dX12_opened_263 ?_
    refine lv_iload_n hx hb dX12_opened_264 rfl (lv_at hl 2 rfl) ?_
    obtain ⟨q265, h265, hf⟩ := bind_some hf
    refine krX12_356_X12_within F K E hA Z h265 ⟨Nat.le_of_ble_eq_true rfl, Nat.le_of_ble_eq_true rfl⟩ hl.1 (Nat.le_of_ble_eq_true rfl) dX12_opened_265 (fun H locs Z => ?_)
    refine lv_aload_n hx hb dX12_opened_268 rfl (lv_at hl 0 rfl) ?_
    refine gmX12_91 F K Z dX12_opened_269 ?_
    refine lv_iload_n hx hb dX12_opened_272 rfl (lv_at hl 1 rfl) ?_
    refine lv_bipush (v := 7) hx hb dX12_opened_273 (by decide) ?_
    obtain ⟨i275, hf⟩ := if_some hf
    refine ms26 F K Z i275 dX12_opened_275 (fun H locs Z => ?_)
    refine lv_aload_n hx hb dX12_opened_276 rfl (lv_at hl 0 rfl) ?_
    obtain ⟨q277, h277, hf⟩ := bind_some hf
    refine krX12_367_X12_begin F K E hA Z h277 ⟨Nat.le_of_ble_eq_true rfl, Nat.le_of_ble_eq_true rfl⟩ hl.1 (Nat.le_of_ble_eq_true rfl) dX12_opened_277 (fun H locs Z => ?_)
    have hf := Option.some.inj hf
    subst hf
    exact ret_i F hr hk Z dX12_opened_280
  have hf := if_f c233 hf
  refine lv_aload_n hx hb dX12_opened_236 rfl (lv_at hl 0 rfl) ?_
  refine lv_iload_n hx hb dX12_opened_237 rfl (lv_at hl 1 rfl) ?_
  refine lv_iload_n hx hb dX12_opened_238 rfl (lv_at hl 3 rfl) ?_
  obtain ⟨q239, h239, hf⟩ := bind_some hf
  refine krX12_373_X12_going F K E hA Z h239 ⟨Nat.le_of_ble_eq_true rfl, Nat.le_of_ble_eq_true rfl⟩ hl.1 (Nat.le_of_ble_eq_true rfl) dX12_opened_239 (fun H locs Z => ?_)
  have hf := Option.some.inj hf
  subst hf
  exact ret_i F hr hk Z dX12_opened_242
set_option maxRecDepth 100000 in
set_option maxHeartbeats 4000000 in
theorem b_X12_opened_201 {p : Program} {l : Launch} {e : Env} {s : State} {m : MethodId} {args : Array Value} {below : List Frame} {meth : Method} {c : Code} {D : va_G} {A : Nat → Prop} {ad : Nat → Nat} {cy : Nat → ClassId} {ee : EE} {n : Nat} {res : (Int32 × StT)} (F : CallFix p m c cX12_opened 5 s args (Cond.code yX12_opened cX12_opened 5 (some .int) :: Gw) yX12_opened.cls) (hr : meth.sig.returnType = (some .int)) (hk : meth.locks = false) (K : va_K D vwCl (tyL cy) s) (E : EV ee A s s.heap) (hA : ∀ q, s.heap.size ≤ q → A q) : ∀ (k : Nat) (st : StT) (x1 : Int32) (x2 : Int32) (x3 : Int32) (x4 : Int32), f_X12_opened_201 n k st x1 x2 x3 x4 = some res → ∀ (H : Heap) (locs : List Loc) (ls : Array Slot), ZG D (wM ad cy st) A s H locs → lv_has ls 5 [(0, .ref (ad 0)), (1, .int x1), (2, .int x2), (3, .int x3), (4, .int x4)] → W p l e { frames := 4, cells := 0, slots := 0, locals := 108 } s m args below meth c H locs 0 0 (MQ below (QC D (some (.int res.1)) (wM ad cy res.2) A) args s 0 0 A) (F0 m 201 ls []) := by
  have hx := F.1
  have hb := F.2.1
  intro k
  induction k with
  | zero =>
    intro st x1 x2 x3 x4 hf
    exact absurd hf (by simp [f_X12_opened_201])
  | succ k ih =>
    intro st x1 x2 x3 x4 hf H locs ls Z hl
    rw [f_X12_opened_201] at hf
    refine lv_iload_n hx hb dX12_opened_201 rfl (lv_at hl 3 rfl) ?_
    refine lv_aload_n hx hb dX12_opened_202 rfl (lv_at hl 0 rfl) ?_
    refine gmX12_82 F K Z dX12_opened_203 ?_
    refine lv_iload_n hx hb dX12_opened_206 rfl (lv_at hl 1 rfl) ?_
    obtain ⟨i207, hf⟩ := if_some hf
    refine ml23 F K Z i207 dX12_opened_207 ?_
    refine lv_icmp_ge (tgt := 226) hx hb dX12_opened_208 (by decide) (fun c208 => ?_) (fun c208 => ?_)
    · have hf := if_t c208 hf
      exact b_X12_opened_226 F hr hk K E hA _ _ _ _ _ hf _ _ _ Z hl
    have hf := if_f c208 hf
    refine lv_aload_n hx hb dX12_opened_211 rfl (lv_at hl 0 rfl) ?_
    refine lv_iload_n hx hb dX12_opened_212 rfl (lv_at hl 1 rfl) ?_
    refine lv_iload_n hx hb dX12_opened_213 rfl (lv_at hl 3 rfl) ?_
    obtain ⟨q214, h214, hf⟩ := bind_some hf
    refine krX12_370_X12_isGoing F K E hA Z h214 ⟨Nat.le_of_ble_eq_true rfl, Nat.le_of_ble_eq_true rfl⟩ hl.1 (Nat.le_of_ble_eq_true rfl) dX12_opened_214 (fun H locs Z => ?_)
    refine lv_if_ne (tgt := 226) hx hb dX12_opened_217 (by decide) (fun c217 => ?_) (fun c217 => ?_)
    · have hf := if_f c217 hf
      exact b_X12_opened_226 F hr hk K E hA _ _ _ _ _ hf _ _ _ Z hl
    have hf := if_t c217 hf
    refine lv_iinc (v := (x3 + (1 : Int32))) (lv' := [(3, .int (x3 + (1 : Int32))), (0, .ref (ad 0)), (1, .int x1), (2, .int x2), (4, .int x4)]) hx hb dX12_opened_220 hl (k := 3) rfl (congrArg (fun z => x3 + z) (by decide)) (by decide) rfl (fun ls hl => ?_)
    refine lv_goto (tgt := 201) hx hb dX12_opened_223 (by decide) ?_
    exact ih _ _ _ _ _ hf _ _ _ Z (lv_sub hl [1, 2, 3, 0, 4] rfl)
set_option maxRecDepth 100000 in
set_option maxHeartbeats 4000000 in
theorem c_X12_opened {l : Launch} {D : va_G} {ad : Nat → Nat} {cy : Nat → ClassId} {ee : EE} {n : Nat} {st : StT} {x1 : Int32} {res : (Int32 × StT)} (hf : f_X12_opened n st x1 = some res) : CT l yX12_opened cX12_opened 5 (some .int) 4 108 D cy ee (wM ad cy st) (wM ad cy res.2) [.ref (ad 0), .int x1] (some (.int res.1)) := by
  refine CT.of (by decide +kernel) (Nat.le_of_ble_eq_true rfl) ?_
  intro p e s m args below meth c A F hr hk K E hA Z ls hl
  have hl : lv_has ls 5 [(0, .ref (ad 0)), (1, .int x1)] := hl
  have hx := F.1
  have hb := F.2.1
  unfold f_X12_opened at hf
  refine lv_aload_n hx hb dX12_opened_0 rfl (lv_at hl 0 rfl) ?_
  refine gmX12_88 F K Z dX12_opened_1 ?_
  refine lv_iload_n hx hb dX12_opened_4 rfl (lv_at hl 1 rfl) ?_
  obtain ⟨i5, hf⟩ := if_some hf
  refine ml25 F K Z i5 dX12_opened_5 ?_
  refine lv_istore_n (lv' := [(2, .int (st.2.1 24 (x1).toNatClampNeg)), (0, .ref (ad 0)), (1, .int x1)]) hx hb dX12_opened_6 rfl hl (by decide) rfl (fun ls hl => ?_)
  refine lv_aload_n hx hb dX12_opened_7 rfl (lv_at hl 1 rfl) ?_
  refine lv_iload_n hx hb dX12_opened_8 rfl (lv_at hl 2 rfl) ?_
  refine lv_aload_n hx hb dX12_opened_9 rfl (lv_at hl 1 rfl) ?_
  refine gmX12_85 F K Z dX12_opened_10 ?_
  refine lv_iload_n hx hb dX12_opened_13 rfl (lv_at hl 2 rfl) ?_
  obtain ⟨i14, hf⟩ := if_some hf
  refine ml24 F K Z i14 dX12_opened_14 ?_
  obtain ⟨q15, h15, hf⟩ := bind_some hf
  refine krX12_328_X12_findLeft F K E hA Z h15 ⟨Nat.le_of_ble_eq_true rfl, Nat.le_of_ble_eq_true rfl⟩ hl.1 (Nat.le_of_ble_eq_true rfl) dX12_opened_15 (fun H locs Z => ?_)
  refine lv_istore_n (lv' := [(3, .int q15.1), (2, .int (st.2.1 24 (x1).toNatClampNeg)), (0, .ref (ad 0)), (1, .int x1)]) hx hb dX12_opened_18 rfl hl (by decide) rfl (fun ls hl => ?_)
  refine lv_iload_n hx hb dX12_opened_19 rfl (lv_at hl 0 rfl) ?_
  refine lv_if_lt (tgt := 34) hx hb dX12_opened_20 (by decide) (fun c20 => ?_) (fun c20 => ?_)
  · have hf := if_t c20 hf
    refine lv_aload_n hx hb dX12_opened_34 rfl (lv_at hl 2 rfl) ?_
    refine lv_iload_n hx hb dX12_opened_35 rfl (lv_at hl 3 rfl) ?_
    refine lv_iconst (v := 0) hx hb dX12_opened_36 (by decide) ?_
    obtain ⟨q37, h37, hf⟩ := bind_some hf
    refine krX12_328_X12_findLeft F K E hA Z h37 ⟨Nat.le_of_ble_eq_true rfl, Nat.le_of_ble_eq_true rfl⟩ hl.1 (Nat.le_of_ble_eq_true rfl) dX12_opened_37 (fun H locs Z => ?_)
    refine lv_istore_n (lv' := [(3, .int q37.1), (2, .int (st.2.1 24 (x1).toNatClampNeg)), (0, .ref (ad 0)), (1, .int x1)]) hx hb dX12_opened_40 rfl hl (by decide) rfl (fun ls hl => ?_)
    refine lv_iload_n hx hb dX12_opened_41 rfl (lv_at hl 0 rfl) ?_
    refine lv_if_lt (tgt := 65) hx hb dX12_opened_42 (by decide) (fun c42 => ?_) (fun c42 => ?_)
    · have hf := if_t c42 hf
      refine lv_aload_n hx hb dX12_opened_65 rfl (lv_at hl 2 rfl) ?_
      refine gmX12_85 F K Z dX12_opened_66 ?_
      refine lv_iload_n hx hb dX12_opened_69 rfl (lv_at hl 3 rfl) ?_
      obtain ⟨i70, hf⟩ := if_some hf
      refine ml24 F K Z i70 dX12_opened_70 ?_
      refine lv_istore (lv' := [(4, .int (q37.2.2.1 23 (x1).toNatClampNeg)), (3, .int q37.1), (2, .int (st.2.1 24 (x1).toNatClampNeg)), (0, .ref (ad 0)), (1, .int x1)]) hx hb dX12_opened_71 hl (by decide) rfl (fun ls hl => ?_)
      refine lv_iload hx hb dX12_opened_73 (lv_at hl 0 rfl) ?_
      refine lv_iconst (v := 1) hx hb dX12_opened_75 (by decide) ?_
      refine lv_icmp_ne (tgt := 94) hx hb dX12_opened_76 (by decide) (fun c76 => ?_) (fun c76 => ?_)
      · have hf := if_f c76 hf
        refine lv_aload_n hx hb dX12_opened_94 rfl (lv_at hl 3 rfl) ?_
        refine gmX12_7 F K Z dX12_opened_95 ?_
        refine lv_iload hx hb dX12_opened_98 (lv_at hl 0 rfl) ?_
        obtain ⟨i100, hf⟩ := if_some hf
        refine ml1 F K Z i100 dX12_opened_100 ?_
        refine lv_iconst (v := 5) hx hb dX12_opened_101 (by decide) ?_
        refine lv_icmp_ne (tgt := 162) hx hb dX12_opened_102 (by decide) (fun c102 => ?_) (fun c102 => ?_)
        · have hf := if_f c102 hf
          refine lv_aload_n hx hb dX12_opened_162 rfl (lv_at hl 3 rfl) ?_
          refine gmX12_7 F K Z dX12_opened_163 ?_
          refine lv_iload hx hb dX12_opened_166 (lv_at hl 0 rfl) ?_
          obtain ⟨i168, hf⟩ := if_some hf
          refine ml1 F K Z i168 dX12_opened_168 ?_
          refine lv_iconst (v := 3) hx hb dX12_opened_169 (by decide) ?_
          refine lv_icmp_ne (tgt := 199) hx hb dX12_opened_170 (by decide) (fun c170 => ?_) (fun c170 => ?_)
          · have hf := if_f c170 hf
            refine lv_iconst (v := 0) hx hb dX12_opened_199 (by decide) ?_
            refine lv_istore_n (lv' := [(3, .int (0 : Int32)), (4, .int (q37.2.2.1 23 (x1).toNatClampNeg)), (2, .int (st.2.1 24 (x1).toNatClampNeg)), (0, .ref (ad 0)), (1, .int x1)]) hx hb dX12_opened_200 rfl hl (by decide) rfl (fun ls hl => ?_)
            exact b_X12_opened_201 F hr hk K E hA _ _ _ _ _ _ hf _ _ _ Z (lv_sub hl [3, 4, 2, 0, 1] rfl)
          have hf := if_t c170 hf
          refine lv_aload_n hx hb dX12_opened_173 rfl (lv_at hl 3 rfl) ?_
          refine lv_iload_n hx hb dX12_opened_174 rfl (lv_at hl 4 rfl) ?_
          refine lv_iconst (v := -1) hx hb dX12_opened_175 (by decide) ?_
          refine lv_aload_n hx hb dX12_opened_176 rfl (lv_at hl 3 rfl) ?_
          refine gmX12_13 F K Z dX12_opened_177 ?_
          refine lv_iload hx hb dX12_opened_180 (lv_at hl 0 rfl) ?_
          obtain ⟨i182, hf⟩ := if_some hf
          refine ml2 F K Z i182 dX12_opened_182 ?_
          refine lv_iload_n hx hb dX12_opened_183 rfl (lv_at hl 2 rfl) ?_
          obtain ⟨q184, h184, hf⟩ := bind_some hf
          refine krX12_356_X12_within F K E hA Z h184 ⟨Nat.le_of_ble_eq_true rfl, Nat.le_of_ble_eq_true rfl⟩ hl.1 (Nat.le_of_ble_eq_true rfl) dX12_opened_184 (fun H locs Z => ?_)
          refine lv_aload_n hx hb dX12_opened_187 rfl (lv_at hl 3 rfl) ?_
          refine gmX12_91 F K Z dX12_opened_188 ?_
          refine lv_iload_n hx hb dX12_opened_191 rfl (lv_at hl 4 rfl) ?_
          refine lv_iconst (v := 3) hx hb dX12_opened_192 (by decide) ?_
          obtain ⟨i193, hf⟩ := if_some hf
          refine ms26 F K Z i193 dX12_opened_193 (fun H locs Z => ?_)
          refine lv_aload_n hx hb dX12_opened_194 rfl (lv_at hl 3 rfl) ?_
          obtain ⟨q195, h195, hf⟩ := bind_some hf
          refine krX12_367_X12_begin F K E hA Z h195 ⟨Nat.le_of_ble_eq_true rfl, Nat.le_of_ble_eq_true rfl⟩ hl.1 (Nat.le_of_ble_eq_true rfl) dX12_opened_195 (fun H locs Z => ?_)
          have hf := Option.some.inj hf
          subst hf
          exact ret_i F hr hk Z dX12_opened_198
        have hf := if_t c102 hf
        refine lv_aload_n hx hb dX12_opened_105 rfl (lv_at hl 3 rfl) ?_
        refine lv_iload_n hx hb dX12_opened_106 rfl (lv_at hl 4 rfl) ?_
        refine lv_iconst (v := -1) hx hb dX12_opened_107 (by decide) ?_
        refine lv_aload_n hx hb dX12_opened_108 rfl (lv_at hl 3 rfl) ?_
        refine gmX12_16 F K Z dX12_opened_109 ?_
        refine lv_iload hx hb dX12_opened_112 (lv_at hl 0 rfl) ?_
        obtain ⟨i114, hf⟩ := if_some hf
        refine ml3 F K Z i114 dX12_opened_114 ?_
        refine lv_iload_n hx hb dX12_opened_115 rfl (lv_at hl 2 rfl) ?_
        refine lv_iconst (v := 1) hx hb dX12_opened_116 (by decide) ?_
        refine lv_iadd hx hb dX12_opened_117 ?_
        obtain ⟨q118, h118, hf⟩ := bind_some hf
        refine krX12_356_X12_within F K E hA Z h118 ⟨Nat.le_of_ble_eq_true rfl, Nat.le_of_ble_eq_true rfl⟩ hl.1 (Nat.le_of_ble_eq_true rfl) dX12_opened_118 (fun H locs Z => ?_)
        refine lv_aload_n hx hb dX12_opened_121 rfl (lv_at hl 3 rfl) ?_
        refine gmX12_91 F K Z dX12_opened_122 ?_
        refine lv_iload_n hx hb dX12_opened_125 rfl (lv_at hl 4 rfl) ?_
        refine lv_iconst (v := 2) hx hb dX12_opened_126 (by decide) ?_
        obtain ⟨i127, hf⟩ := if_some hf
        refine ms26 F K Z i127 dX12_opened_127 (fun H locs Z => ?_)
        refine lv_aload_n hx hb dX12_opened_128 rfl (lv_at hl 3 rfl) ?_
        refine lv_iload_n hx hb dX12_opened_129 rfl (lv_at hl 4 rfl) ?_
        refine lv_iconst (v := 1) hx hb dX12_opened_130 (by decide) ?_
        refine lv_iadd hx hb dX12_opened_131 ?_
        refine lv_aload_n hx hb dX12_opened_132 rfl (lv_at hl 3 rfl) ?_
        refine gmX12_13 F K Z dX12_opened_133 ?_
        refine lv_iload hx hb dX12_opened_136 (lv_at hl 0 rfl) ?_
        obtain ⟨i138, hf⟩ := if_some hf
        refine ml2 F K Z i138 dX12_opened_138 ?_
        refine lv_aload_n hx hb dX12_opened_139 rfl (lv_at hl 3 rfl) ?_
        refine lv_iload_n hx hb dX12_opened_140 rfl (lv_at hl 2 rfl) ?_
        obtain ⟨q141, h141, hf⟩ := bind_some hf
        refine krX12_360_X12_hypothesis F K E hA Z h141 ⟨Nat.le_of_ble_eq_true rfl, Nat.le_of_ble_eq_true rfl⟩ hl.1 (Nat.le_of_ble_eq_true rfl) dX12_opened_141 (fun H locs Z => ?_)
        refine lv_iload_n hx hb dX12_opened_144 rfl (lv_at hl 2 rfl) ?_
        refine lv_iconst (v := 1) hx hb dX12_opened_145 (by decide) ?_
        refine lv_iadd hx hb dX12_opened_146 ?_
        obtain ⟨q147, h147, hf⟩ := bind_some hf
        refine krX12_363_X12_comes F K E hA Z h147 ⟨Nat.le_of_ble_eq_true rfl, Nat.le_of_ble_eq_true rfl⟩ hl.1 (Nat.le_of_ble_eq_true rfl) dX12_opened_147 (fun H locs Z => ?_)
        refine lv_if_eq (tgt := 160) hx hb dX12_opened_150 (by decide) (fun c150 => ?_) (fun c150 => ?_)
        · have hf := if_t c150 hf
          refine lv_iconst (v := 3) hx hb dX12_opened_160 (by decide) ?_
          have hf := Option.some.inj hf
          subst hf
          exact ret_i F hr hk Z dX12_opened_161
        have hf := if_f c150 hf
        refine lv_aload_n hx hb dX12_opened_153 rfl (lv_at hl 3 rfl) ?_
        obtain ⟨q154, h154, hf⟩ := bind_some hf
        refine krX12_367_X12_begin F K E hA Z h154 ⟨Nat.le_of_ble_eq_true rfl, Nat.le_of_ble_eq_true rfl⟩ hl.1 (Nat.le_of_ble_eq_true rfl) dX12_opened_154 (fun H locs Z => ?_)
        refine lv_goto (tgt := 161) hx hb dX12_opened_157 (by decide) ?_
        have hf := Option.some.inj hf
        subst hf
        exact ret_i F hr hk Z dX12_opened_161
      have hf := if_t c76 hf
      refine lv_aload_n hx hb dX12_opened_79 rfl (lv_at hl 3 rfl) ?_
      refine lv_aload_n hx hb dX12_opened_80 rfl (lv_at hl 3 rfl) ?_
      refine lv_bipush (v := 84) hx hb dX12_opened_81 (by decide) ?_
      refine lv_iconst (v := 0) hx hb dX12_opened_83 (by decide) ?_
      refine lv_iconst (v := -1) hx hb dX12_opened_84 (by decide) ?_
      refine lv_iconst (v := -1) hx hb dX12_opened_85 (by decide) ?_
      refine lv_iconst (v := -1) hx hb dX12_opened_86 (by decide) ?_
      obtain ⟨q87, h87, hf⟩ := bind_some hf
      refine krX12_318_X12_term F K E hA Z h87 ⟨Nat.le_of_ble_eq_true rfl, Nat.le_of_ble_eq_true rfl⟩ hl.1 (Nat.le_of_ble_eq_true rfl) dX12_opened_87 (fun H locs Z => ?_)
      obtain ⟨q90, h90, hf⟩ := bind_some hf
      refine krX12_353_X12_proved F K E hA Z h90 ⟨Nat.le_of_ble_eq_true rfl, Nat.le_of_ble_eq_true rfl⟩ hl.1 (Nat.le_of_ble_eq_true rfl) dX12_opened_90 (fun H locs Z => ?_)
      have hf := Option.some.inj hf
      subst hf
      exact ret_i F hr hk Z dX12_opened_93
    have hf := if_f c42 hf
    refine lv_aload_n hx hb dX12_opened_45 rfl (lv_at hl 2 rfl) ?_
    refine lv_aload_n hx hb dX12_opened_46 rfl (lv_at hl 2 rfl) ?_
    refine lv_bipush (v := 88) hx hb dX12_opened_47 (by decide) ?_
    refine lv_iconst (v := 0) hx hb dX12_opened_49 (by decide) ?_
    refine lv_aload_n hx hb dX12_opened_50 rfl (lv_at hl 2 rfl) ?_
    refine lv_iload_n hx hb dX12_opened_51 rfl (lv_at hl 3 rfl) ?_
    refine lv_iload_n hx hb dX12_opened_52 rfl (lv_at hl 0 rfl) ?_
    obtain ⟨q53, h53, hf⟩ := bind_some hf
    refine krX12_350_X12_termOf F K E hA Z h53 ⟨Nat.le_of_ble_eq_true rfl, Nat.le_of_ble_eq_true rfl⟩ hl.1 (Nat.le_of_ble_eq_true rfl) dX12_opened_53 (fun H locs Z => ?_)
    refine lv_iconst (v := -1) hx hb dX12_opened_56 (by decide) ?_
    refine lv_iconst (v := -1) hx hb dX12_opened_57 (by decide) ?_
    obtain ⟨q58, h58, hf⟩ := bind_some hf
    refine krX12_318_X12_term F K E hA Z h58 ⟨Nat.le_of_ble_eq_true rfl, Nat.le_of_ble_eq_true rfl⟩ hl.1 (Nat.le_of_ble_eq_true rfl) dX12_opened_58 (fun H locs Z => ?_)
    obtain ⟨q61, h61, hf⟩ := bind_some hf
    refine krX12_353_X12_proved F K E hA Z h61 ⟨Nat.le_of_ble_eq_true rfl, Nat.le_of_ble_eq_true rfl⟩ hl.1 (Nat.le_of_ble_eq_true rfl) dX12_opened_61 (fun H locs Z => ?_)
    have hf := Option.some.inj hf
    subst hf
    exact ret_i F hr hk Z dX12_opened_64
  have hf := if_f c20 hf
  refine lv_aload_n hx hb dX12_opened_23 rfl (lv_at hl 2 rfl) ?_
  refine lv_aload_n hx hb dX12_opened_24 rfl (lv_at hl 2 rfl) ?_
  refine lv_iload_n hx hb dX12_opened_25 rfl (lv_at hl 3 rfl) ?_
  refine lv_iload_n hx hb dX12_opened_26 rfl (lv_at hl 0 rfl) ?_
  obtain ⟨q27, h27, hf⟩ := bind_some hf
  refine krX12_350_X12_termOf F K E hA Z h27 ⟨Nat.le_of_ble_eq_true rfl, Nat.le_of_ble_eq_true rfl⟩ hl.1 (Nat.le_of_ble_eq_true rfl) dX12_opened_27 (fun H locs Z => ?_)
  obtain ⟨q30, h30, hf⟩ := bind_some hf
  refine krX12_353_X12_proved F K E hA Z h30 ⟨Nat.le_of_ble_eq_true rfl, Nat.le_of_ble_eq_true rfl⟩ hl.1 (Nat.le_of_ble_eq_true rfl) dX12_opened_30 (fun H locs Z => ?_)
  have hf := Option.some.inj hf
  subst hf
  exact ret_i F hr hk Z dX12_opened_33
def f_X12_resumed2_193 (n : Nat) (st : StT) (x1 : Int32) : Option (Int32 × StT) := if inB x1 201 = true then ((f_X12_addChild n st (st.2.1 28 (x1).toNatClampNeg) (st.1 26)).bind fun q204 => (if inB x1 201 = true then ((f_X12_needs n q204 x1 ((q204.2.1 26 (x1).toNatClampNeg) + (1 : Int32))).bind fun q217 => (some (q217.1, q217.2))) else none)) else none
def f_X12_resumed2 (n : Nat) (st : StT) (x1 : Int32) (x2 : Int32) (x3 : Int32) (x4 : Int32) : Option (Int32 × StT) := if inB x1 201 = true then (if (st.2.1 25 (x1).toNatClampNeg) = 7 then (if x2 = (1 : Int32) then ((f_X12_term n st (73 : Int32) (0 : Int32) (st.1 25) (-1 : Int32) (-1 : Int32)).bind fun q48 => ((f_X12_proved n q48.2 q48.1).bind fun q51 => (some (q51.1, q51.2)))) else ((f_X12_newWorld n st x1).bind fun q62 => (if inB x1 201 = true then (if inB x1 201 = true then ((f_X12_addChild n (uA q62.2 28 x1 q62.1) ((uA q62.2 28 x1 q62.1).2.1 28 (x1).toNatClampNeg) ((uA q62.2 28 x1 q62.1).1 26)).bind fun q77 => (if inB x4 4200 = true then ((f_X12_within n q77 x1 (-1 : Int32) (q77.2.1 2 (x4).toNatClampNeg) x3).bind fun q91 => (if inB x1 201 = true then ((f_X12_begin n (uA q91 25 x1 (8 : Int32))).bind fun q103 => (some (q103.1, q103.2))) else none)) else none)) else none) else none))) else (if (st.2.1 25 (x1).toNatClampNeg) = 8 then (if x2 = (1 : Int32) then ((f_X12_term n st (74 : Int32) (0 : Int32) (st.1 25) (-1 : Int32) (-1 : Int32)).bind fun q123 => ((f_X12_proved n q123.2 q123.1).bind fun q126 => (some (q126.1, q126.2)))) else (if inB x1 201 = true then ((f_X12_addChild n st (st.2.1 28 (x1).toNatClampNeg) (st.1 26)).bind fun q141 => ((f_X12_needs n q141 x1 (0 : Int32)).bind fun q147 => (some (q147.1, q147.2)))) else none)) else (if inB x1 201 = true then (if inB (((60 : Int32) * x1) + (st.2.1 26 (x1).toNatClampNeg)) 12060 = true then (if x2 = 0 then (if inB x1 201 = true then (if 0 ≤ (st.2.1 28 (x1).toNatClampNeg) then (f_X12_resumed2_193 n st x1) else ((f_X12_newWorld n st x1).bind fun q189 => (if inB x1 201 = true then (f_X12_resumed2_193 n (uA q189.2 28 x1 q189.1) x1) else none))) else none) else (if inB (st.2.1 19 ((((60 : Int32) * x1) + (st.2.1 26 (x1).toNatClampNeg))).toNatClampNeg) 4200 = true then (if inB (st.2.1 1 ((st.2.1 19 ((((60 : Int32) * x1) + (st.2.1 26 (x1).toNatClampNeg))).toNatClampNeg)).toNatClampNeg) 4200 = true then ((f_X12_term n st (76 : Int32) (st.2.1 1 ((st.2.1 1 ((st.2.1 19 ((((60 : Int32) * x1) + (st.2.1 26 (x1).toNatClampNeg))).toNatClampNeg)).toNatClampNeg)).toNatClampNeg) (st.1 25) (-1 : Int32) (-1 : Int32)).bind fun q242 => (if inB x1 201 = true then ((f_X12_termOf n q242.2 x1 (q242.2.2.1 26 (x1).toNatClampNeg)).bind fun q259 => ((f_X12_term n q259.2 (65 : Int32) (0 : Int32) q259.1 q242.1 (-1 : Int32)).bind fun q265 => (if inB x1 201 = true then ((f_X12_within n q265.2 x1 (q265.2.2.1 26 (x1).toNatClampNeg) x4 x3).bind fun q281 => (if inB x1 201 = true then (if inB (st.2.1 19 ((((60 : Int32) * x1) + (st.2.1 26 (x1).toNatClampNeg))).toNatClampNeg) 4200 = true then ((f_X12_comes n (uA q281 25 x1 (1 : Int32)) (x1 + (1 : Int32)) ((uA q281 25 x1 (1 : Int32)).2.1 2 ((st.2.1 19 ((((60 : Int32) * x1) + (st.2.1 26 (x1).toNatClampNeg))).toNatClampNeg)).toNatClampNeg) q265.1 x3).bind fun q305 => (if q305.1 = 0 then (some ((3 : Int32), q305.2)) else ((f_X12_begin n q305.2).bind fun q312 => (some (q312.1, q312.2))))) else none) else none)) else none))) else none)) else none) else none)) else none) else none))) else none
theorem wd1187 : Cond.fieldLink RX12 97 "WorldProverModel" "kept" "[I" ∈ Gw := gT6 (List.mem_of_getElem? (i := 104) rfl) rfl
theorem wd1188 : Cond.methodLink RX12 394 yX12_addChild ∈ Gw := gT8 (List.mem_of_getElem? (i := 161) rfl) rfl
theorem wd1189 : Cond.code yX12_addChild prog_14_method_26_code 3 none ∈ Gw := gT8 (List.mem_of_getElem? (i := 164) rfl) rfl
theorem wd1190 : Cond.instanceMethod yX12_addChild ∈ Gw := gT8 (List.mem_of_getElem? (i := 163) rfl) rfl
theorem wd1191 : Cond.selects RX12 yX12_addChild yX12_addChild ∈ Gw := gP8 (q := (yX12_addChild, 98)) (List.mem_of_getElem? (i := 9) rfl)
section
variable {p : Program} {l : Launch} {e : Env} {R : Room} {s : State} {m : MethodId} {args : Array Value} {below : List Frame} {meth : Method} {c : Code} {H : Heap} {locs : List Loc} {Q : State → Prop}
variable {cc : ByteArray} {nL pc : Nat} {ls : Array Slot} {rest : List Value} {D : va_G} {A : Nat → Prop} {cw : Cond} {ad : Nat → Nat} {cy : Nat → ClassId} {ee : EE} {st : StT} {own : String}
theorem ml26 {i : Int32} (F : CallFix p m c cc nL s args (cw :: Gw) own) (K : va_K D vwCl (tyL cy) s) (Z : ZG D (wM ad cy st) A s H locs) (hi : inB i 201 = true) (hd : decode cc pc = .ok (.iaload, 1)) (kk : W p l e R s m args below meth c H locs 0 0 Q (F0 m (pc + 1) ls (.int (st.2.1 25 i.toNatClampNeg) :: rest))) : W p l e R s m args below meth c H locs 0 0 Q (F0 m pc ls (.int i :: .ref (ad 26) :: rest)) :=
  va_iald F.1 F.2.1 K Z.1 26 1 rfl rfl (inB_vp hi) hd kk
theorem gmX12_347 (F : CallFix p m c cc nL s args (cw :: Gw) RX12) (K : va_K D vwCl (tyL cy) s) (Z : ZG D (wM ad cy st) A s H locs) (hd : decode cc pc = .ok (.getfield 347, 3)) (kk : W p l e R s m args below meth c H locs 0 0 Q (F0 m (pc + 3) ls (.int (st.1 25) :: rest))) : W p l e R s m args below meth c H locs 0 0 Q (F0 m pc ls (.ref (ad 0) :: rest)) :=
  va_get (D := D) (ci := 12) (C := RX12) (T := TX12) (N := 98) F.1 F.2.1 F.2.2.2.2 (fun w h => List.mem_cons_of_mem _ (inG_X12 w h)) F.2.2.2.1 K Z.1 0 rfl rfl 54 (by decide) (F.2.2.2.2 _ (List.mem_cons_of_mem _ wd1135)) (fun _ h => h) rfl hd kk
theorem gmX12_97 (F : CallFix p m c cc nL s args (cw :: Gw) RX12) (K : va_K D vwCl (tyL cy) s) (Z : ZG D (wM ad cy st) A s H locs) (hd : decode cc pc = .ok (.getfield 97, 3)) (kk : W p l e R s m args below meth c H locs 0 0 Q (F0 m (pc + 3) ls (.ref (ad 28) :: rest))) : W p l e R s m args below meth c H locs 0 0 Q (F0 m pc ls (.ref (ad 0) :: rest)) :=
  va_get (D := D) (ci := 12) (C := RX12) (T := TX12) (N := 98) F.1 F.2.1 F.2.2.2.2 (fun w h => List.mem_cons_of_mem _ (inG_X12 w h)) F.2.2.2.1 K Z.1 0 rfl rfl 46 (by decide) (F.2.2.2.2 _ (List.mem_cons_of_mem _ wd1187)) (fun _ h => h) rfl hd kk
theorem ms28 {i : Int32} {v : Int32} (F : CallFix p m c cc nL s args (cw :: Gw) own) (K : va_K D vwCl (tyL cy) s) (Z : ZG D (wM ad cy st) A s H locs) (hi : inB i 201 = true) (hd : decode cc pc = .ok (.iastore, 1)) (kk : ∀ (H1 : Heap) (locs1 : List Loc), ZG D (wM ad cy (uA st 27 i v)) A s H1 locs1 → W p l e R s m args below meth c H1 locs1 0 0 Q (F0 m (pc + 1) ls rest)) : W p l e R s m args below meth c H locs 0 0 Q (F0 m pc ls (.int v :: .int i :: .ref (ad 28) :: rest)) :=
  va_iast F.1 F.2.1 K Z.1 Z.2.1 Z.2.2 28 1 rfl rfl (inB_vp hi) hd (fun H1 locs1 hP hD hS => kk H1 locs1 ⟨hP, hD, hS⟩)
theorem ml28 {i : Int32} (F : CallFix p m c cc nL s args (cw :: Gw) own) (K : va_K D vwCl (tyL cy) s) (Z : ZG D (wM ad cy st) A s H locs) (hi : inB i 201 = true) (hd : decode cc pc = .ok (.iaload, 1)) (kk : W p l e R s m args below meth c H locs 0 0 Q (F0 m (pc + 1) ls (.int (st.2.1 27 i.toNatClampNeg) :: rest))) : W p l e R s m args below meth c H locs 0 0 Q (F0 m pc ls (.int i :: .ref (ad 28) :: rest)) :=
  va_iald F.1 F.2.1 K Z.1 28 1 rfl rfl (inB_vp hi) hd kk
theorem ml27 {i : Int32} (F : CallFix p m c cc nL s args (cw :: Gw) own) (K : va_K D vwCl (tyL cy) s) (Z : ZG D (wM ad cy st) A s H locs) (hi : inB i 201 = true) (hd : decode cc pc = .ok (.iaload, 1)) (kk : W p l e R s m args below meth c H locs 0 0 Q (F0 m (pc + 1) ls (.int (st.2.1 26 i.toNatClampNeg) :: rest))) : W p l e R s m args below meth c H locs 0 0 Q (F0 m pc ls (.int i :: .ref (ad 27) :: rest)) :=
  va_iald F.1 F.2.1 K Z.1 27 1 rfl rfl (inB_vp hi) hd kk
theorem gmX12_388 (F : CallFix p m c cc nL s args (cw :: Gw) RX12) (K : va_K D vwCl (tyL cy) s) (Z : ZG D (wM ad cy st) A s H locs) (hd : decode cc pc = .ok (.getfield 388, 3)) (kk : W p l e R s m args below meth c H locs 0 0 Q (F0 m (pc + 3) ls (.int (st.1 26) :: rest))) : W p l e R s m args below meth c H locs 0 0 Q (F0 m pc ls (.ref (ad 0) :: rest)) :=
  va_get (D := D) (ci := 12) (C := RX12) (T := TX12) (N := 98) F.1 F.2.1 F.2.2.2.2 (fun w h => List.mem_cons_of_mem _ (inG_X12 w h)) F.2.2.2.1 K Z.1 0 rfl rfl 55 (by decide) (F.2.2.2.2 _ (List.mem_cons_of_mem _ wd1138)) (fun _ h => h) rfl hd kk
theorem krX12_394_X12_addChild {n : Nat} {a0 : Int32} {a1 : Int32} {q : StT} (F : CallFix p m c cc nL s args (cw :: Gw) RX12) (K : va_K D vwCl (tyL cy) s) (E : EV ee A s s.heap) (hA : ∀ q, s.heap.size ≤ q → A q) (Z : ZG D (wM ad cy st) A s H locs) (hf : f_X12_addChild n st a0 a1 = some q) (hR : 1 ≤ R.frames ∧ 22 ≤ R.locals) (hl : ls.size = nL) (hst : (rest.map fun v => v.category).sum ≤ 8) (hd : decode cc pc = .ok (.invokevirtual 394, 3)) (kk : ∀ (H1 : Heap) (locs1 : List Loc), ZG D (wM ad cy q) A s H1 locs1 → W p l e R s m args below meth c H1 locs1 0 0 Q (F0 m (pc + 3) ls (rest))) : W p l e R s m args below meth c H locs 0 0 Q (F0 m pc ls (.int a1 :: .int a0 :: .ref (ad 0) :: rest)) :=
  call_V (q := (RX12, TX12, 98)) (n := 2) (As := [.int a0, .int a1]) (rv := none) 0 12 F K E hA Z (c_X12_addChild (l := l) (D := D) (ad := ad) (cy := cy) (ee := ee) hf) ⟨wd1189, wd1188, wd1190, wd1191, wd1008⟩ (by decide +kernel) rfl rfl hR rfl hl hst hd kk
end
set_option maxRecDepth 100000 in
set_option maxHeartbeats 4000000 in
theorem b_X12_resumed2_193 {p : Program} {l : Launch} {e : Env} {s : State} {m : MethodId} {args : Array Value} {below : List Frame} {meth : Method} {c : Code} {D : va_G} {A : Nat → Prop} {ad : Nat → Nat} {cy : Nat → ClassId} {ee : EE} {n : Nat} {res : (Int32 × StT)} (F : CallFix p m c cX12_resumed2 8 s args (Cond.code yX12_resumed2 cX12_resumed2 8 (some .int) :: Gw) yX12_resumed2.cls) (hr : meth.sig.returnType = (some .int)) (hk : meth.locks = false) (K : va_K D vwCl (tyL cy) s) (E : EV ee A s s.heap) (hA : ∀ q, s.heap.size ≤ q → A q) : ∀ (st : StT) (x1 : Int32), f_X12_resumed2_193 n st x1 = some res → ∀ (H : Heap) (locs : List Loc) (ls : Array Slot), ZG D (wM ad cy st) A s H locs → lv_has ls 8 [(0, .ref (ad 0)), (1, .int x1)] → W p l e { frames := 3, cells := 0, slots := 0, locals := 80 } s m args below meth c H locs 0 0 (MQ below (QC D (some (.int res.1)) (wM ad cy res.2) A) args s 0 0 A) (F0 m 193 ls []) := by
  have hx := F.1
  have hb := F.2.1
  intro st x1 hf H locs ls Z hl
  unfold f_X12_resumed2_193 at hf
  refine lv_aload_n hx hb dX12_resumed2_193 rfl (lv_at hl 0 rfl) ?_
  refine lv_aload_n hx hb dX12_resumed2_194 rfl (lv_at hl 0 rfl) ?_
  refine gmX12_100 F K Z dX12_resumed2_195 ?_
  refine lv_iload_n hx hb dX12_resumed2_198 rfl (lv_at hl 1 rfl) ?_
  obtain ⟨i199, hf⟩ := if_some hf
  refine ml29 F K Z i199 dX12_resumed2_199 ?_
  refine lv_aload_n hx hb dX12_resumed2_200 rfl (lv_at hl 0 rfl) ?_
  refine gmX12_388 F K Z dX12_resumed2_201 ?_
  obtain ⟨q204, h204, hf⟩ := bind_some hf
  refine krX12_394_X12_addChild F K E hA Z h204 ⟨Nat.le_of_ble_eq_true rfl, Nat.le_of_ble_eq_true rfl⟩ hl.1 (Nat.le_of_ble_eq_true rfl) dX12_resumed2_204 (fun H locs Z => ?_)
  refine lv_aload_n hx hb dX12_resumed2_207 rfl (lv_at hl 0 rfl) ?_
  refine lv_iload_n hx hb dX12_resumed2_208 rfl (lv_at hl 1 rfl) ?_
  refine lv_aload_n hx hb dX12_resumed2_209 rfl (lv_at hl 0 rfl) ?_
  refine gmX12_94 F K Z dX12_resumed2_210 ?_
  refine lv_iload_n hx hb dX12_resumed2_213 rfl (lv_at hl 1 rfl) ?_
  obtain ⟨i214, hf⟩ := if_some hf
  refine ml27 F K Z i214 dX12_resumed2_214 ?_
  refine lv_iconst (v := 1) hx hb dX12_resumed2_215 (by decide) ?_
  refine lv_iadd hx hb dX12_resumed2_216 ?_
  obtain ⟨q217, h217, hf⟩ := bind_some hf
  refine krX12_376_X12_needs F K E hA Z h217 ⟨Nat.le_of_ble_eq_true rfl, Nat.le_of_ble_eq_true rfl⟩ hl.1 (Nat.le_of_ble_eq_true rfl) dX12_resumed2_217 (fun H locs Z => ?_)
  have hf := Option.some.inj hf
  subst hf
  exact ret_i F hr hk Z dX12_resumed2_220
set_option maxRecDepth 100000 in
set_option maxHeartbeats 4000000 in
theorem c_X12_resumed2 {l : Launch} {D : va_G} {ad : Nat → Nat} {cy : Nat → ClassId} {ee : EE} {n : Nat} {st : StT} {x1 : Int32} {x2 : Int32} {x3 : Int32} {x4 : Int32} {res : (Int32 × StT)} (hf : f_X12_resumed2 n st x1 x2 x3 x4 = some res) : CT l yX12_resumed2 cX12_resumed2 8 (some .int) 3 80 D cy ee (wM ad cy st) (wM ad cy res.2) [.ref (ad 0), .int x1, .int x2, .int x3, .int x4] (some (.int res.1)) := by
  refine CT.of (by decide +kernel) (Nat.le_of_ble_eq_true rfl) ?_
  intro p e s m args below meth c A F hr hk K E hA Z ls hl
  have hl : lv_has ls 8 [(0, .ref (ad 0)), (1, .int x1), (2, .int x2), (3, .int x3), (4, .int x4)] := hl
  have hx := F.1
  have hb := F.2.1
  unfold f_X12_resumed2 at hf
  refine lv_aload_n hx hb dX12_resumed2_0 rfl (lv_at hl 0 rfl) ?_
  refine gmX12_91 F K Z dX12_resumed2_1 ?_
  refine lv_iload_n hx hb dX12_resumed2_4 rfl (lv_at hl 1 rfl) ?_
  obtain ⟨i5, hf⟩ := if_some hf
  refine ml26 F K Z i5 dX12_resumed2_5 ?_
  by_cases c6_7 : (st.2.1 25 (x1).toNatClampNeg) = 7
  · have hf := if_t c6_7 hf
    refine lv_lookup (tgt := 32) hx hb dX12_resumed2_6 (by decide) (by rw [c6_7] <;> decide) (by decide) ?_
    refine lv_iload_n hx hb dX12_resumed2_32 rfl (lv_at hl 2 rfl) ?_
    refine lv_iconst (v := 1) hx hb dX12_resumed2_33 (by decide) ?_
    refine lv_icmp_ne (tgt := 55) hx hb dX12_resumed2_34 (by decide) (fun c34 => ?_) (fun c34 => ?_)
    · have hf := if_f c34 hf
      refine lv_aload_n hx hb dX12_resumed2_55 rfl (lv_at hl 0 rfl) ?_
      refine gmX12_100 F K Z dX12_resumed2_56 ?_
      refine lv_iload_n hx hb dX12_resumed2_59 rfl (lv_at hl 1 rfl) ?_
      refine lv_aload_n hx hb dX12_resumed2_60 rfl (lv_at hl 0 rfl) ?_
      refine lv_iload_n hx hb dX12_resumed2_61 rfl (lv_at hl 1 rfl) ?_
      obtain ⟨q62, h62, hf⟩ := bind_some hf
      refine krX12_385_X12_newWorld F K E hA Z h62 ⟨Nat.le_of_ble_eq_true rfl, Nat.le_of_ble_eq_true rfl⟩ hl.1 (Nat.le_of_ble_eq_true rfl) dX12_resumed2_62 (fun H locs Z => ?_)
      obtain ⟨i65, hf⟩ := if_some hf
      refine ms29 F K Z i65 dX12_resumed2_65 (fun H locs Z => ?_)
      refine lv_aload_n hx hb dX12_resumed2_66 rfl (lv_at hl 0 rfl) ?_
      refine lv_aload_n hx hb dX12_resumed2_67 rfl (lv_at hl 0 rfl) ?_
      refine gmX12_100 F K Z dX12_resumed2_68 ?_
      refine lv_iload_n hx hb dX12_resumed2_71 rfl (lv_at hl 1 rfl) ?_
      obtain ⟨i72, hf⟩ := if_some hf
      refine ml29 F K Z i72 dX12_resumed2_72 ?_
      refine lv_aload_n hx hb dX12_resumed2_73 rfl (lv_at hl 0 rfl) ?_
      refine gmX12_388 F K Z dX12_resumed2_74 ?_
      obtain ⟨q77, h77, hf⟩ := bind_some hf
      refine krX12_394_X12_addChild F K E hA Z h77 ⟨Nat.le_of_ble_eq_true rfl, Nat.le_of_ble_eq_true rfl⟩ hl.1 (Nat.le_of_ble_eq_true rfl) dX12_resumed2_77 (fun H locs Z => ?_)
      refine lv_aload_n hx hb dX12_resumed2_80 rfl (lv_at hl 0 rfl) ?_
      refine lv_iload_n hx hb dX12_resumed2_81 rfl (lv_at hl 1 rfl) ?_
      refine lv_iconst (v := -1) hx hb dX12_resumed2_82 (by decide) ?_
      refine lv_aload_n hx hb dX12_resumed2_83 rfl (lv_at hl 0 rfl) ?_
      refine gmX12_16 F K Z dX12_resumed2_84 ?_
      refine lv_iload hx hb dX12_resumed2_87 (lv_at hl 4 rfl) ?_
      obtain ⟨i89, hf⟩ := if_some hf
      refine ml3 F K Z i89 dX12_resumed2_89 ?_
      refine lv_iload_n hx hb dX12_resumed2_90 rfl (lv_at hl 3 rfl) ?_
      obtain ⟨q91, h91, hf⟩ := bind_some hf
      refine krX12_356_X12_within F K E hA Z h91 ⟨Nat.le_of_ble_eq_true rfl, Nat.le_of_ble_eq_true rfl⟩ hl.1 (Nat.le_of_ble_eq_true rfl) dX12_resumed2_91 (fun H locs Z => ?_)
      refine lv_aload_n hx hb dX12_resumed2_94 rfl (lv_at hl 0 rfl) ?_
      refine gmX12_91 F K Z dX12_resumed2_95 ?_
      refine lv_iload_n hx hb dX12_resumed2_98 rfl (lv_at hl 1 rfl) ?_
      refine lv_bipush (v := 8) hx hb dX12_resumed2_99 (by decide) ?_
      obtain ⟨i101, hf⟩ := if_some hf
      refine ms26 F K Z i101 dX12_resumed2_101 (fun H locs Z => ?_)
      refine lv_aload_n hx hb dX12_resumed2_102 rfl (lv_at hl 0 rfl) ?_
      obtain ⟨q103, h103, hf⟩ := bind_some hf
      refine krX12_367_X12_begin F K E hA Z h103 ⟨Nat.le_of_ble_eq_true rfl, Nat.le_of_ble_eq_true rfl⟩ hl.1 (Nat.le_of_ble_eq_true rfl) dX12_resumed2_103 (fun H locs Z => ?_)
      have hf := Option.some.inj hf
      subst hf
      exact ret_i F hr hk Z dX12_resumed2_106
    have hf := if_t c34 hf
    refine lv_aload_n hx hb dX12_resumed2_37 rfl (lv_at hl 0 rfl) ?_
    refine lv_aload_n hx hb dX12_resumed2_38 rfl (lv_at hl 0 rfl) ?_
    refine lv_bipush (v := 73) hx hb dX12_resumed2_39 (by decide) ?_
    refine lv_iconst (v := 0) hx hb dX12_resumed2_41 (by decide) ?_
    refine lv_aload_n hx hb dX12_resumed2_42 rfl (lv_at hl 0 rfl) ?_
    refine gmX12_347 F K Z dX12_resumed2_43 ?_
    refine lv_iconst (v := -1) hx hb dX12_resumed2_46 (by decide) ?_
    refine lv_iconst (v := -1) hx hb dX12_resumed2_47 (by decide) ?_
    obtain ⟨q48, h48, hf⟩ := bind_some hf
    refine krX12_318_X12_term F K E hA Z h48 ⟨Nat.le_of_ble_eq_true rfl, Nat.le_of_ble_eq_true rfl⟩ hl.1 (Nat.le_of_ble_eq_true rfl) dX12_resumed2_48 (fun H locs Z => ?_)
    obtain ⟨q51, h51, hf⟩ := bind_some hf
    refine krX12_353_X12_proved F K E hA Z h51 ⟨Nat.le_of_ble_eq_true rfl, Nat.le_of_ble_eq_true rfl⟩ hl.1 (Nat.le_of_ble_eq_true rfl) dX12_resumed2_51 (fun H locs Z => ?_)
    have hf := Option.some.inj hf
    subst hf
    exact ret_i F hr hk Z dX12_resumed2_54
  have hf := if_f c6_7 hf
  by_cases c6_8 : (st.2.1 25 (x1).toNatClampNeg) = 8
  · have hf := if_t c6_8 hf
    refine lv_lookup (tgt := 107) hx hb dX12_resumed2_6 (by decide) (by rw [c6_8] <;> decide) (by decide) ?_
    refine lv_iload_n hx hb dX12_resumed2_107 rfl (lv_at hl 2 rfl) ?_
    refine lv_iconst (v := 1) hx hb dX12_resumed2_108 (by decide) ?_
    refine lv_icmp_ne (tgt := 130) hx hb dX12_resumed2_109 (by decide) (fun c109 => ?_) (fun c109 => ?_)
    · have hf := if_f c109 hf
      refine lv_aload_n hx hb dX12_resumed2_130 rfl (lv_at hl 0 rfl) ?_
      refine lv_aload_n hx hb dX12_resumed2_131 rfl (lv_at hl 0 rfl) ?_
      refine gmX12_100 F K Z dX12_resumed2_132 ?_
      refine lv_iload_n hx hb dX12_resumed2_135 rfl (lv_at hl 1 rfl) ?_
      obtain ⟨i136, hf⟩ := if_some hf
      refine ml29 F K Z i136 dX12_resumed2_136 ?_
      refine lv_aload_n hx hb dX12_resumed2_137 rfl (lv_at hl 0 rfl) ?_
      refine gmX12_388 F K Z dX12_resumed2_138 ?_
      obtain ⟨q141, h141, hf⟩ := bind_some hf
      refine krX12_394_X12_addChild F K E hA Z h141 ⟨Nat.le_of_ble_eq_true rfl, Nat.le_of_ble_eq_true rfl⟩ hl.1 (Nat.le_of_ble_eq_true rfl) dX12_resumed2_141 (fun H locs Z => ?_)
      refine lv_aload_n hx hb dX12_resumed2_144 rfl (lv_at hl 0 rfl) ?_
      refine lv_iload_n hx hb dX12_resumed2_145 rfl (lv_at hl 1 rfl) ?_
      refine lv_iconst (v := 0) hx hb dX12_resumed2_146 (by decide) ?_
      obtain ⟨q147, h147, hf⟩ := bind_some hf
      refine krX12_376_X12_needs F K E hA Z h147 ⟨Nat.le_of_ble_eq_true rfl, Nat.le_of_ble_eq_true rfl⟩ hl.1 (Nat.le_of_ble_eq_true rfl) dX12_resumed2_147 (fun H locs Z => ?_)
      have hf := Option.some.inj hf
      subst hf
      exact ret_i F hr hk Z dX12_resumed2_150
    have hf := if_t c109 hf
    refine lv_aload_n hx hb dX12_resumed2_112 rfl (lv_at hl 0 rfl) ?_
    refine lv_aload_n hx hb dX12_resumed2_113 rfl (lv_at hl 0 rfl) ?_
    refine lv_bipush (v := 74) hx hb dX12_resumed2_114 (by decide) ?_
    refine lv_iconst (v := 0) hx hb dX12_resumed2_116 (by decide) ?_
    refine lv_aload_n hx hb dX12_resumed2_117 rfl (lv_at hl 0 rfl) ?_
    refine gmX12_347 F K Z dX12_resumed2_118 ?_
    refine lv_iconst (v := -1) hx hb dX12_resumed2_121 (by decide) ?_
    refine lv_iconst (v := -1) hx hb dX12_resumed2_122 (by decide) ?_
    obtain ⟨q123, h123, hf⟩ := bind_some hf
    refine krX12_318_X12_term F K E hA Z h123 ⟨Nat.le_of_ble_eq_true rfl, Nat.le_of_ble_eq_true rfl⟩ hl.1 (Nat.le_of_ble_eq_true rfl) dX12_resumed2_123 (fun H locs Z => ?_)
    obtain ⟨q126, h126, hf⟩ := bind_some hf
    refine krX12_353_X12_proved F K E hA Z h126 ⟨Nat.le_of_ble_eq_true rfl, Nat.le_of_ble_eq_true rfl⟩ hl.1 (Nat.le_of_ble_eq_true rfl) dX12_resumed2_126 (fun H locs Z => ?_)
    have hf := Option.some.inj hf
    subst hf
    exact ret_i F hr hk Z dX12_resumed2_129
  have hf := if_f c6_8 hf
  refine lv_lookup (tgt := 151) hx hb dX12_resumed2_6 (by decide) (off := 145) ?_ (by decide) ?_
  · exact (lv_osw c6_7 (by decide)).trans ((lv_osw c6_8 (by decide)).trans (rfl))
  refine lv_aload_n hx hb dX12_resumed2_151 rfl (lv_at hl 0 rfl) ?_
  refine gmX12_73 F K Z dX12_resumed2_152 ?_
  refine lv_bipush (v := 60) hx hb dX12_resumed2_155 (by decide) ?_
  refine lv_iload_n hx hb dX12_resumed2_157 rfl (lv_at hl 1 rfl) ?_
  refine lv_imul hx hb dX12_resumed2_158 ?_
  refine lv_aload_n hx hb dX12_resumed2_159 rfl (lv_at hl 0 rfl) ?_
  refine gmX12_94 F K Z dX12_resumed2_160 ?_
  refine lv_iload_n hx hb dX12_resumed2_163 rfl (lv_at hl 1 rfl) ?_
  obtain ⟨i164, hf⟩ := if_some hf
  refine ml27 F K Z i164 dX12_resumed2_164 ?_
  refine lv_iadd hx hb dX12_resumed2_165 ?_
  obtain ⟨i166, hf⟩ := if_some hf
  refine ml20 F K Z i166 dX12_resumed2_166 ?_
  refine lv_istore (lv' := [(5, .int (st.2.1 19 ((((60 : Int32) * x1) + (st.2.1 26 (x1).toNatClampNeg))).toNatClampNeg)), (0, .ref (ad 0)), (1, .int x1), (2, .int x2), (3, .int x3), (4, .int x4)]) hx hb dX12_resumed2_167 hl (by decide) rfl (fun ls hl => ?_)
  refine lv_iload_n hx hb dX12_resumed2_169 rfl (lv_at hl 3 rfl) ?_
  refine lv_if_ne (tgt := 221) hx hb dX12_resumed2_170 (by decide) (fun c170 => ?_) (fun c170 => ?_)
  · have hf := if_f c170 hf
    refine lv_aload_n hx hb dX12_resumed2_221 rfl (lv_at hl 1 rfl) ?_
    refine lv_bipush (v := 76) hx hb dX12_resumed2_222 (by decide) ?_
    refine lv_aload_n hx hb dX12_resumed2_224 rfl (lv_at hl 1 rfl) ?_
    refine gmX12_13 F K Z dX12_resumed2_225 ?_
    refine lv_aload_n hx hb dX12_resumed2_228 rfl (lv_at hl 1 rfl) ?_
    refine gmX12_13 F K Z dX12_resumed2_229 ?_
    refine lv_iload hx hb dX12_resumed2_232 (lv_at hl 0 rfl) ?_
    obtain ⟨i234, hf⟩ := if_some hf
    refine ml2 F K Z i234 dX12_resumed2_234 ?_
    obtain ⟨i235, hf⟩ := if_some hf
    refine ml2 F K Z i235 dX12_resumed2_235 ?_
    refine lv_aload_n hx hb dX12_resumed2_236 rfl (lv_at hl 1 rfl) ?_
    refine gmX12_347 F K Z dX12_resumed2_237 ?_
    refine lv_iconst (v := -1) hx hb dX12_resumed2_240 (by decide) ?_
    refine lv_iconst (v := -1) hx hb dX12_resumed2_241 (by decide) ?_
    obtain ⟨q242, h242, hf⟩ := bind_some hf
    refine krX12_318_X12_term F K E hA Z h242 ⟨Nat.le_of_ble_eq_true rfl, Nat.le_of_ble_eq_true rfl⟩ hl.1 (Nat.le_of_ble_eq_true rfl) dX12_resumed2_242 (fun H locs Z => ?_)
    refine lv_istore (lv' := [(6, .int q242.1), (5, .int (st.2.1 19 ((((60 : Int32) * x1) + (st.2.1 26 (x1).toNatClampNeg))).toNatClampNeg)), (0, .ref (ad 0)), (1, .int x1), (2, .int x2), (3, .int x3), (4, .int x4)]) hx hb dX12_resumed2_245 hl (by decide) rfl (fun ls hl => ?_)
    refine lv_aload_n hx hb dX12_resumed2_247 rfl (lv_at hl 2 rfl) ?_
    refine lv_bipush (v := 65) hx hb dX12_resumed2_248 (by decide) ?_
    refine lv_iconst (v := 0) hx hb dX12_resumed2_250 (by decide) ?_
    refine lv_aload_n hx hb dX12_resumed2_251 rfl (lv_at hl 2 rfl) ?_
    refine lv_iload_n hx hb dX12_resumed2_252 rfl (lv_at hl 3 rfl) ?_
    refine lv_aload_n hx hb dX12_resumed2_253 rfl (lv_at hl 2 rfl) ?_
    refine gmX12_94 F K Z dX12_resumed2_254 ?_
    refine lv_iload_n hx hb dX12_resumed2_257 rfl (lv_at hl 3 rfl) ?_
    obtain ⟨i258, hf⟩ := if_some hf
    refine ml27 F K Z i258 dX12_resumed2_258 ?_
    obtain ⟨q259, h259, hf⟩ := bind_some hf
    refine krX12_350_X12_termOf F K E hA Z h259 ⟨Nat.le_of_ble_eq_true rfl, Nat.le_of_ble_eq_true rfl⟩ hl.1 (Nat.le_of_ble_eq_true rfl) dX12_resumed2_259 (fun H locs Z => ?_)
    refine lv_iload hx hb dX12_resumed2_262 (lv_at hl 0 rfl) ?_
    refine lv_iconst (v := -1) hx hb dX12_resumed2_264 (by decide) ?_
    obtain ⟨q265, h265, hf⟩ := bind_some hf
    refine krX12_318_X12_term F K E hA Z h265 ⟨Nat.le_of_ble_eq_true rfl, Nat.le_of_ble_eq_true rfl⟩ hl.1 (Nat.le_of_ble_eq_true rfl) dX12_resumed2_265 (fun H locs Z => ?_)
    refine lv_istore (lv' := [(7, .int q265.1), (6, .int q242.1), (5, .int (st.2.1 19 ((((60 : Int32) * x1) + (st.2.1 26 (x1).toNatClampNeg))).toNatClampNeg)), (0, .ref (ad 0)), (1, .int x1), (2, .int x2), (3, .int x3), (4, .int x4)]) hx hb dX12_resumed2_268 hl (by decide) rfl (fun ls hl => ?_)
    refine lv_aload_n hx hb dX12_resumed2_270 rfl (lv_at hl 3 rfl) ?_
    refine lv_iload_n hx hb dX12_resumed2_271 rfl (lv_at hl 4 rfl) ?_
    refine lv_aload_n hx hb dX12_resumed2_272 rfl (lv_at hl 3 rfl) ?_
    refine gmX12_94 F K Z dX12_resumed2_273 ?_
    refine lv_iload_n hx hb dX12_resumed2_276 rfl (lv_at hl 4 rfl) ?_
    obtain ⟨i277, hf⟩ := if_some hf
    refine ml27 F K Z i277 dX12_resumed2_277 ?_
    refine lv_iload hx hb dX12_resumed2_278 (lv_at hl 7 rfl) ?_
    refine lv_iload_n hx hb dX12_resumed2_280 rfl (lv_at hl 6 rfl) ?_
    obtain ⟨q281, h281, hf⟩ := bind_some hf
    refine krX12_356_X12_within F K E hA Z h281 ⟨Nat.le_of_ble_eq_true rfl, Nat.le_of_ble_eq_true rfl⟩ hl.1 (Nat.le_of_ble_eq_true rfl) dX12_resumed2_281 (fun H locs Z => ?_)
    refine lv_aload_n hx hb dX12_resumed2_284 rfl (lv_at hl 3 rfl) ?_
    refine gmX12_91 F K Z dX12_resumed2_285 ?_
    refine lv_iload_n hx hb dX12_resumed2_288 rfl (lv_at hl 4 rfl) ?_
    refine lv_iconst (v := 1) hx hb dX12_resumed2_289 (by decide) ?_
    obtain ⟨i290, hf⟩ := if_some hf
    refine ms26 F K Z i290 dX12_resumed2_290 (fun H locs Z => ?_)
    refine lv_aload_n hx hb dX12_resumed2_291 rfl (lv_at hl 3 rfl) ?_
    refine lv_iload_n hx hb dX12_resumed2_292 rfl (lv_at hl 4 rfl) ?_
    refine lv_iconst (v := 1) hx hb dX12_resumed2_293 (by decide) ?_
    refine lv_iadd hx hb dX12_resumed2_294 ?_
    refine lv_aload_n hx hb dX12_resumed2_295 rfl (lv_at hl 3 rfl) ?_
    refine gmX12_16 F K Z dX12_resumed2_296 ?_
    refine lv_iload hx hb dX12_resumed2_299 (lv_at hl 2 rfl) ?_
    obtain ⟨i301, hf⟩ := if_some hf
    refine ml3 F K Z i301 dX12_resumed2_301 ?_
    refine lv_iload hx hb dX12_resumed2_302 (lv_at hl 0 rfl) ?_
    refine lv_iload_n hx hb dX12_resumed2_304 rfl (lv_at hl 6 rfl) ?_
    obtain ⟨q305, h305, hf⟩ := bind_some hf
    refine krX12_363_X12_comes F K E hA Z h305 ⟨Nat.le_of_ble_eq_true rfl, Nat.le_of_ble_eq_true rfl⟩ hl.1 (Nat.le_of_ble_eq_true rfl) dX12_resumed2_305 (fun H locs Z => ?_)
    refine lv_if_eq (tgt := 318) hx hb dX12_resumed2_308 (by decide) (fun c308 => ?_) (fun c308 => ?_)
    · have hf := if_t c308 hf
      refine lv_iconst (v := 3) hx hb dX12_resumed2_318 (by decide) ?_
      have hf := Option.some.inj hf
      subst hf
      exact ret_i F hr hk Z dX12_resumed2_319
    have hf := if_f c308 hf
    refine lv_aload_n hx hb dX12_resumed2_311 rfl (lv_at hl 3 rfl) ?_
    obtain ⟨q312, h312, hf⟩ := bind_some hf
    refine krX12_367_X12_begin F K E hA Z h312 ⟨Nat.le_of_ble_eq_true rfl, Nat.le_of_ble_eq_true rfl⟩ hl.1 (Nat.le_of_ble_eq_true rfl) dX12_resumed2_312 (fun H locs Z => ?_)
    refine lv_goto (tgt := 319) hx hb dX12_resumed2_315 (by decide) ?_
    have hf := Option.some.inj hf
    subst hf
    exact ret_i F hr hk Z dX12_resumed2_319
  have hf := if_t c170 hf
  refine lv_aload_n hx hb dX12_resumed2_173 rfl (lv_at hl 1 rfl) ?_
  refine gmX12_100 F K Z dX12_resumed2_174 ?_
  refine lv_iload_n hx hb dX12_resumed2_177 rfl (lv_at hl 2 rfl) ?_
  obtain ⟨i178, hf⟩ := if_some hf
  refine ml29 F K Z i178 dX12_resumed2_178 ?_
  refine lv_if_ge (tgt := 193) hx hb dX12_resumed2_179 (by decide) (fun c179 => ?_) (fun c179 => ?_)
  · have hf := if_t c179 hf
    exact b_X12_resumed2_193 F hr hk K E hA _ _ hf _ _ _ Z (lv_sub hl [1, 2] rfl)
  have hf := if_f c179 hf
  refine lv_aload_n hx hb dX12_resumed2_182 rfl (lv_at hl 1 rfl) ?_
  refine gmX12_100 F K Z dX12_resumed2_183 ?_
  refine lv_iload_n hx hb dX12_resumed2_186 rfl (lv_at hl 2 rfl) ?_
  refine lv_aload_n hx hb dX12_resumed2_187 rfl (lv_at hl 1 rfl) ?_
  refine lv_iload_n hx hb dX12_resumed2_188 rfl (lv_at hl 2 rfl) ?_
  obtain ⟨q189, h189, hf⟩ := bind_some hf
  refine krX12_385_X12_newWorld F K E hA Z h189 ⟨Nat.le_of_ble_eq_true rfl, Nat.le_of_ble_eq_true rfl⟩ hl.1 (Nat.le_of_ble_eq_true rfl) dX12_resumed2_189 (fun H locs Z => ?_)
  obtain ⟨i192, hf⟩ := if_some hf
  refine ms29 F K Z i192 dX12_resumed2_192 (fun H locs Z => ?_)
  exact b_X12_resumed2_193 F hr hk K E hA _ _ hf _ _ _ Z (lv_sub hl [1, 2] rfl)
def f_X12_resumed (n : Nat) (st : StT) (x1 : Int32) (x2 : Int32) : Option (Int32 × StT) := if inB x1 201 = true then (if inB x1 201 = true then (if inB x1 201 = true then (if (st.2.1 25 (x1).toNatClampNeg) = 1 then (some (x2, st)) else (if (st.2.1 25 (x1).toNatClampNeg) = 2 then (if x2 = 0 then (some ((0 : Int32), st)) else (if inB (st.2.1 23 (x1).toNatClampNeg) 4200 = true then ((f_X12_term n st (76 : Int32) (st.2.1 1 ((st.2.1 23 (x1).toNatClampNeg)).toNatClampNeg) (st.1 25) (-1 : Int32) (-1 : Int32)).bind fun q87 => ((f_X12_proved n q87.2 q87.1).bind fun q90 => (some (q90.1, q90.2)))) else none)) else (if (st.2.1 25 (x1).toNatClampNeg) = 3 then (if x2 = 0 then (some ((0 : Int32), st)) else (if inB x1 201 = true then (if inB (st.2.1 23 (x1).toNatClampNeg) 4200 = true then ((f_X12_within n (uA st 27 x1 (st.1 25)) x1 (-1 : Int32) ((uA st 27 x1 (st.1 25)).2.1 2 ((st.2.1 23 (x1).toNatClampNeg)).toNatClampNeg) (st.2.1 24 (x1).toNatClampNeg)).bind fun q121 => (if inB x1 201 = true then ((f_X12_begin n (uA q121 25 x1 (4 : Int32))).bind fun q132 => (some (q132.1, q132.2))) else none)) else none) else none)) else (if (st.2.1 25 (x1).toNatClampNeg) = 4 then (if x2 = 0 then (some ((0 : Int32), st)) else (if inB x1 201 = true then ((f_X12_term n st (80 : Int32) (0 : Int32) (st.2.1 27 (x1).toNatClampNeg) (st.1 25) (-1 : Int32)).bind fun q160 => ((f_X12_proved n q160.2 q160.1).bind fun q163 => (some (q163.1, q163.2)))) else none)) else (if (st.2.1 25 (x1).toNatClampNeg) = 5 then (if x2 = 0 then (some ((0 : Int32), st)) else (if inB x1 201 = true then (if inB x1 201 = true then ((f_X12_within n (uA st 27 x1 (st.1 25)) x1 ((uA st 27 x1 (st.1 25)).2.1 26 (x1).toNatClampNeg) (st.2.1 23 (x1).toNatClampNeg) ((st.2.1 24 (x1).toNatClampNeg) + (1 : Int32))).bind fun q196 => (if inB x1 201 = true then (if inB x1 201 = true then (if inB (((60 : Int32) * x1) + ((uA q196 25 x1 (6 : Int32)).2.1 26 (x1).toNatClampNeg)) 12060 = true then (if inB ((uA q196 25 x1 (6 : Int32)).2.1 19 ((((60 : Int32) * x1) + ((uA q196 25 x1 (6 : Int32)).2.1 26 (x1).toNatClampNeg))).toNatClampNeg) 4200 = true then ((f_X12_hypothesis n (uA q196 25 x1 (6 : Int32)) (st.2.1 24 (x1).toNatClampNeg)).bind fun q234 => ((f_X12_comes n q234.2 (x1 + (1 : Int32)) ((uA q196 25 x1 (6 : Int32)).2.1 2 (((uA q196 25 x1 (6 : Int32)).2.1 19 ((((60 : Int32) * x1) + ((uA q196 25 x1 (6 : Int32)).2.1 26 (x1).toNatClampNeg))).toNatClampNeg)).toNatClampNeg) q234.1 ((st.2.1 24 (x1).toNatClampNeg) + (1 : Int32))).bind fun q240 => (if q240.1 = 0 then (some ((3 : Int32), q240.2)) else ((f_X12_begin n q240.2).bind fun q247 => (some (q247.1, q247.2)))))) else none) else none) else none) else none)) else none) else none)) else (if (st.2.1 25 (x1).toNatClampNeg) = 6 then (if x2 = 0 then (some ((0 : Int32), st)) else (if inB x1 201 = true then ((f_X12_termOf n st x1 (st.2.1 26 (x1).toNatClampNeg)).bind fun q276 => (if inB x1 201 = true then ((f_X12_term n q276.2 (67 : Int32) (0 : Int32) q276.1 (q276.2.2.1 27 (x1).toNatClampNeg) (q276.2.1 25)).bind fun q289 => ((f_X12_proved n q289.2 q289.1).bind fun q292 => (some (q292.1, q292.2)))) else none)) else none)) else ((f_X12_resumed2 n st x1 x2 (st.2.1 24 (x1).toNatClampNeg) (st.2.1 23 (x1).toNatClampNeg)).bind fun q302 => (some (q302.1, q302.2))))))))) else none) else none) else none
theorem wd1192 : Cond.methodLink RX12 391 yX12_resumed2 ∈ Gw := gT8 (List.mem_of_getElem? (i := 157) rfl) rfl
theorem wd1193 : Cond.code yX12_resumed2 prog_14_method_41_code 8 (some .int) ∈ Gw := gT8 (List.mem_of_getElem? (i := 160) rfl) rfl
theorem wd1194 : Cond.instanceMethod yX12_resumed2 ∈ Gw := gT8 (List.mem_of_getElem? (i := 159) rfl) rfl
theorem wd1195 : Cond.selects RX12 yX12_resumed2 yX12_resumed2 ∈ Gw := gP8 (q := (yX12_resumed2, 98)) (List.mem_of_getElem? (i := 8) rfl)
section
variable {p : Program} {l : Launch} {e : Env} {R : Room} {s : State} {m : MethodId} {args : Array Value} {below : List Frame} {meth : Method} {c : Code} {H : Heap} {locs : List Loc} {Q : State → Prop}
variable {cc : ByteArray} {nL pc : Nat} {ls : Array Slot} {rest : List Value} {D : va_G} {A : Nat → Prop} {cw : Cond} {ad : Nat → Nat} {cy : Nat → ClassId} {ee : EE} {st : StT} {own : String}
theorem krX12_391_X12_resumed2 {n : Nat} {a0 : Int32} {a1 : Int32} {a2 : Int32} {a3 : Int32} {q : (Int32 × StT)} (F : CallFix p m c cc nL s args (cw :: Gw) RX12) (K : va_K D vwCl (tyL cy) s) (E : EV ee A s s.heap) (hA : ∀ q, s.heap.size ≤ q → A q) (Z : ZG D (wM ad cy st) A s H locs) (hf : f_X12_resumed2 n st a0 a1 a2 a3 = some q) (hR : 4 ≤ R.frames ∧ 107 ≤ R.locals) (hl : ls.size = nL) (hst : (rest.map fun v => v.category).sum ≤ 8) (hd : decode cc pc = .ok (.invokevirtual 391, 3)) (kk : ∀ (H1 : Heap) (locs1 : List Loc), ZG D (wM ad cy q.2) A s H1 locs1 → W p l e R s m args below meth c H1 locs1 0 0 Q (F0 m (pc + 3) ls (.int q.1 :: rest))) : W p l e R s m args below meth c H locs 0 0 Q (F0 m pc ls (.int a3 :: .int a2 :: .int a1 :: .int a0 :: .ref (ad 0) :: rest)) :=
  call_V (q := (RX12, TX12, 98)) (n := 4) (As := [.int a0, .int a1, .int a2, .int a3]) (rv := some (.int q.1)) 0 12 F K E hA Z (c_X12_resumed2 (l := l) (D := D) (ad := ad) (cy := cy) (ee := ee) hf) ⟨wd1193, wd1192, wd1194, wd1195, wd1008⟩ (by decide +kernel) rfl rfl hR rfl hl hst hd kk
end
set_option maxRecDepth 100000 in
set_option maxHeartbeats 4000000 in
theorem c_X12_resumed {l : Launch} {D : va_G} {ad : Nat → Nat} {cy : Nat → ClassId} {ee : EE} {n : Nat} {st : StT} {x1 : Int32} {x2 : Int32} {res : (Int32 × StT)} (hf : f_X12_resumed n st x1 x2 = some res) : CT l yX12_resumed cX12_resumed 5 (some .int) 4 107 D cy ee (wM ad cy st) (wM ad cy res.2) [.ref (ad 0), .int x1, .int x2] (some (.int res.1)) := by
  refine CT.of (by decide +kernel) (Nat.le_of_ble_eq_true rfl) ?_
  intro p e s m args below meth c A F hr hk K E hA Z ls hl
  have hl : lv_has ls 5 [(0, .ref (ad 0)), (1, .int x1), (2, .int x2)] := hl
  have hx := F.1
  have hb := F.2.1
  unfold f_X12_resumed at hf
  refine lv_aload_n hx hb dX12_resumed_0 rfl (lv_at hl 0 rfl) ?_
  refine gmX12_88 F K Z dX12_resumed_1 ?_
  refine lv_iload_n hx hb dX12_resumed_4 rfl (lv_at hl 1 rfl) ?_
  obtain ⟨i5, hf⟩ := if_some hf
  refine ml25 F K Z i5 dX12_resumed_5 ?_
  refine lv_istore_n (lv' := [(3, .int (st.2.1 24 (x1).toNatClampNeg)), (0, .ref (ad 0)), (1, .int x1), (2, .int x2)]) hx hb dX12_resumed_6 rfl hl (by decide) rfl (fun ls hl => ?_)
  refine lv_aload_n hx hb dX12_resumed_7 rfl (lv_at hl 1 rfl) ?_
  refine gmX12_85 F K Z dX12_resumed_8 ?_
  refine lv_iload_n hx hb dX12_resumed_11 rfl (lv_at hl 2 rfl) ?_
  obtain ⟨i12, hf⟩ := if_some hf
  refine ml24 F K Z i12 dX12_resumed_12 ?_
  refine lv_istore (lv' := [(4, .int (st.2.1 23 (x1).toNatClampNeg)), (3, .int (st.2.1 24 (x1).toNatClampNeg)), (0, .ref (ad 0)), (1, .int x1), (2, .int x2)]) hx hb dX12_resumed_13 hl (by decide) rfl (fun ls hl => ?_)
  refine lv_aload_n hx hb dX12_resumed_15 rfl (lv_at hl 2 rfl) ?_
  refine gmX12_91 F K Z dX12_resumed_16 ?_
  refine lv_iload_n hx hb dX12_resumed_19 rfl (lv_at hl 3 rfl) ?_
  obtain ⟨i20, hf⟩ := if_some hf
  refine ml26 F K Z i20 dX12_resumed_20 ?_
  by_cases c21_1 : (st.2.1 25 (x1).toNatClampNeg) = 1
  · have hf := if_t c21_1 hf
    refine lv_tableIn (tgt := 60) hx hb dX12_resumed_21 (by rw [c21_1] <;> decide) (by rw [c21_1] <;> decide) (by rw [c21_1] <;> rfl) (by decide) ?_
    refine lv_iload_n hx hb dX12_resumed_60 rfl (lv_at hl 4 rfl) ?_
    have hf := Option.some.inj hf
    subst hf
    exact ret_i F hr hk Z dX12_resumed_61
  have hf := if_f c21_1 hf
  by_cases c21_2 : (st.2.1 25 (x1).toNatClampNeg) = 2
  · have hf := if_t c21_2 hf
    refine lv_tableIn (tgt := 62) hx hb dX12_resumed_21 (by rw [c21_2] <;> decide) (by rw [c21_2] <;> decide) (by rw [c21_2] <;> rfl) (by decide) ?_
    refine lv_iload_n hx hb dX12_resumed_62 rfl (lv_at hl 4 rfl) ?_
    refine lv_if_ne (tgt := 70) hx hb dX12_resumed_63 (by decide) (fun c63 => ?_) (fun c63 => ?_)
    · have hf := if_f c63 hf
      refine lv_aload_n hx hb dX12_resumed_70 rfl (lv_at hl 2 rfl) ?_
      refine lv_aload_n hx hb dX12_resumed_71 rfl (lv_at hl 2 rfl) ?_
      refine lv_bipush (v := 76) hx hb dX12_resumed_72 (by decide) ?_
      refine lv_aload_n hx hb dX12_resumed_74 rfl (lv_at hl 2 rfl) ?_
      refine gmX12_13 F K Z dX12_resumed_75 ?_
      refine lv_iload hx hb dX12_resumed_78 (lv_at hl 0 rfl) ?_
      obtain ⟨i80, hf⟩ := if_some hf
      refine ml2 F K Z i80 dX12_resumed_80 ?_
      refine lv_aload_n hx hb dX12_resumed_81 rfl (lv_at hl 2 rfl) ?_
      refine gmX12_347 F K Z dX12_resumed_82 ?_
      refine lv_iconst (v := -1) hx hb dX12_resumed_85 (by decide) ?_
      refine lv_iconst (v := -1) hx hb dX12_resumed_86 (by decide) ?_
      obtain ⟨q87, h87, hf⟩ := bind_some hf
      refine krX12_318_X12_term F K E hA Z h87 ⟨Nat.le_of_ble_eq_true rfl, Nat.le_of_ble_eq_true rfl⟩ hl.1 (Nat.le_of_ble_eq_true rfl) dX12_resumed_87 (fun H locs Z => ?_)
      obtain ⟨q90, h90, hf⟩ := bind_some hf
      refine krX12_353_X12_proved F K E hA Z h90 ⟨Nat.le_of_ble_eq_true rfl, Nat.le_of_ble_eq_true rfl⟩ hl.1 (Nat.le_of_ble_eq_true rfl) dX12_resumed_90 (fun H locs Z => ?_)
      have hf := Option.some.inj hf
      subst hf
      exact ret_i F hr hk Z dX12_resumed_93
    have hf := if_t c63 hf
    refine lv_iconst (v := 0) hx hb dX12_resumed_66 (by decide) ?_
    refine lv_goto (tgt := 93) hx hb dX12_resumed_67 (by decide) ?_
    have hf := Option.some.inj hf
    subst hf
    exact ret_i F hr hk Z dX12_resumed_93
  have hf := if_f c21_2 hf
  by_cases c21_3 : (st.2.1 25 (x1).toNatClampNeg) = 3
  · have hf := if_t c21_3 hf
    refine lv_tableIn (tgt := 94) hx hb dX12_resumed_21 (by rw [c21_3] <;> decide) (by rw [c21_3] <;> decide) (by rw [c21_3] <;> rfl) (by decide) ?_
    refine lv_iload_n hx hb dX12_resumed_94 rfl (lv_at hl 4 rfl) ?_
    refine lv_if_ne (tgt := 100) hx hb dX12_resumed_95 (by decide) (fun c95 => ?_) (fun c95 => ?_)
    · have hf := if_f c95 hf
      refine lv_aload_n hx hb dX12_resumed_100 rfl (lv_at hl 2 rfl) ?_
      refine gmX12_97 F K Z dX12_resumed_101 ?_
      refine lv_iload_n hx hb dX12_resumed_104 rfl (lv_at hl 3 rfl) ?_
      refine lv_aload_n hx hb dX12_resumed_105 rfl (lv_at hl 2 rfl) ?_
      refine gmX12_347 F K Z dX12_resumed_106 ?_
      obtain ⟨i109, hf⟩ := if_some hf
      refine ms28 F K Z i109 dX12_resumed_109 (fun H locs Z => ?_)
      refine lv_aload_n hx hb dX12_resumed_110 rfl (lv_at hl 2 rfl) ?_
      refine lv_iload_n hx hb dX12_resumed_111 rfl (lv_at hl 3 rfl) ?_
      refine lv_iconst (v := -1) hx hb dX12_resumed_112 (by decide) ?_
      refine lv_aload_n hx hb dX12_resumed_113 rfl (lv_at hl 2 rfl) ?_
      refine gmX12_16 F K Z dX12_resumed_114 ?_
      refine lv_iload hx hb dX12_resumed_117 (lv_at hl 0 rfl) ?_
      obtain ⟨i119, hf⟩ := if_some hf
      refine ml3 F K Z i119 dX12_resumed_119 ?_
      refine lv_iload_n hx hb dX12_resumed_120 rfl (lv_at hl 1 rfl) ?_
      obtain ⟨q121, h121, hf⟩ := bind_some hf
      refine krX12_356_X12_within F K E hA Z h121 ⟨Nat.le_of_ble_eq_true rfl, Nat.le_of_ble_eq_true rfl⟩ hl.1 (Nat.le_of_ble_eq_true rfl) dX12_resumed_121 (fun H locs Z => ?_)
      refine lv_aload_n hx hb dX12_resumed_124 rfl (lv_at hl 2 rfl) ?_
      refine gmX12_91 F K Z dX12_resumed_125 ?_
      refine lv_iload_n hx hb dX12_resumed_128 rfl (lv_at hl 3 rfl) ?_
      refine lv_iconst (v := 4) hx hb dX12_resumed_129 (by decide) ?_
      obtain ⟨i130, hf⟩ := if_some hf
      refine ms26 F K Z i130 dX12_resumed_130 (fun H locs Z => ?_)
      refine lv_aload_n hx hb dX12_resumed_131 rfl (lv_at hl 2 rfl) ?_
      obtain ⟨q132, h132, hf⟩ := bind_some hf
      refine krX12_367_X12_begin F K E hA Z h132 ⟨Nat.le_of_ble_eq_true rfl, Nat.le_of_ble_eq_true rfl⟩ hl.1 (Nat.le_of_ble_eq_true rfl) dX12_resumed_132 (fun H locs Z => ?_)
      have hf := Option.some.inj hf
      subst hf
      exact ret_i F hr hk Z dX12_resumed_135
    have hf := if_t c95 hf
    refine lv_iconst (v := 0) hx hb dX12_resumed_98 (by decide) ?_
    have hf := Option.some.inj hf
    subst hf
    exact ret_i F hr hk Z dX12_resumed_99
  have hf := if_f c21_3 hf
  by_cases c21_4 : (st.2.1 25 (x1).toNatClampNeg) = 4
  · have hf := if_t c21_4 hf
    refine lv_tableIn (tgt := 136) hx hb dX12_resumed_21 (by rw [c21_4] <;> decide) (by rw [c21_4] <;> decide) (by rw [c21_4] <;> rfl) (by decide) ?_
    refine lv_iload_n hx hb dX12_resumed_136 rfl (lv_at hl 4 rfl) ?_
    refine lv_if_ne (tgt := 144) hx hb dX12_resumed_137 (by decide) (fun c137 => ?_) (fun c137 => ?_)
    · have hf := if_f c137 hf
      refine lv_aload_n hx hb dX12_resumed_144 rfl (lv_at hl 2 rfl) ?_
      refine lv_aload_n hx hb dX12_resumed_145 rfl (lv_at hl 2 rfl) ?_
      refine lv_bipush (v := 80) hx hb dX12_resumed_146 (by decide) ?_
      refine lv_iconst (v := 0) hx hb dX12_resumed_148 (by decide) ?_
      refine lv_aload_n hx hb dX12_resumed_149 rfl (lv_at hl 2 rfl) ?_
      refine gmX12_97 F K Z dX12_resumed_150 ?_
      refine lv_iload_n hx hb dX12_resumed_153 rfl (lv_at hl 3 rfl) ?_
      obtain ⟨i154, hf⟩ := if_some hf
      refine ml28 F K Z i154 dX12_resumed_154 ?_
      refine lv_aload_n hx hb dX12_resumed_155 rfl (lv_at hl 2 rfl) ?_
      refine gmX12_347 F K Z dX12_resumed_156 ?_
      refine lv_iconst (v := -1) hx hb dX12_resumed_159 (by decide) ?_
      obtain ⟨q160, h160, hf⟩ := bind_some hf
      refine krX12_318_X12_term F K E hA Z h160 ⟨Nat.le_of_ble_eq_true rfl, Nat.le_of_ble_eq_true rfl⟩ hl.1 (Nat.le_of_ble_eq_true rfl) dX12_resumed_160 (fun H locs Z => ?_)
      obtain ⟨q163, h163, hf⟩ := bind_some hf
      refine krX12_353_X12_proved F K E hA Z h163 ⟨Nat.le_of_ble_eq_true rfl, Nat.le_of_ble_eq_true rfl⟩ hl.1 (Nat.le_of_ble_eq_true rfl) dX12_resumed_163 (fun H locs Z => ?_)
      have hf := Option.some.inj hf
      subst hf
      exact ret_i F hr hk Z dX12_resumed_166
    have hf := if_t c137 hf
    refine lv_iconst (v := 0) hx hb dX12_resumed_140 (by decide) ?_
    refine lv_goto (tgt := 166) hx hb dX12_resumed_141 (by decide) ?_
    have hf := Option.some.inj hf
    subst hf
    exact ret_i F hr hk Z dX12_resumed_166
  have hf := if_f c21_4 hf
  by_cases c21_5 : (st.2.1 25 (x1).toNatClampNeg) = 5
  · have hf := if_t c21_5 hf
    refine lv_tableIn (tgt := 167) hx hb dX12_resumed_21 (by rw [c21_5] <;> decide) (by rw [c21_5] <;> decide) (by rw [c21_5] <;> rfl) (by decide) ?_
    refine lv_iload_n hx hb dX12_resumed_167 rfl (lv_at hl 4 rfl) ?_
    refine lv_if_ne (tgt := 173) hx hb dX12_resumed_168 (by decide) (fun c168 => ?_) (fun c168 => ?_)
    · have hf := if_f c168 hf
      refine lv_aload_n hx hb dX12_resumed_173 rfl (lv_at hl 2 rfl) ?_
      refine gmX12_97 F K Z dX12_resumed_174 ?_
      refine lv_iload_n hx hb dX12_resumed_177 rfl (lv_at hl 3 rfl) ?_
      refine lv_aload_n hx hb dX12_resumed_178 rfl (lv_at hl 2 rfl) ?_
      refine gmX12_347 F K Z dX12_resumed_179 ?_
      obtain ⟨i182, hf⟩ := if_some hf
      refine ms28 F K Z i182 dX12_resumed_182 (fun H locs Z => ?_)
      refine lv_aload_n hx hb dX12_resumed_183 rfl (lv_at hl 2 rfl) ?_
      refine lv_iload_n hx hb dX12_resumed_184 rfl (lv_at hl 3 rfl) ?_
      refine lv_aload_n hx hb dX12_resumed_185 rfl (lv_at hl 2 rfl) ?_
      refine gmX12_94 F K Z dX12_resumed_186 ?_
      refine lv_iload_n hx hb dX12_resumed_189 rfl (lv_at hl 3 rfl) ?_
      obtain ⟨i190, hf⟩ := if_some hf
      refine ml27 F K Z i190 dX12_resumed_190 ?_
      refine lv_iload hx hb dX12_resumed_191 (lv_at hl 0 rfl) ?_
      refine lv_iload_n hx hb dX12_resumed_193 rfl (lv_at hl 1 rfl) ?_
      refine lv_iconst (v := 1) hx hb dX12_resumed_194 (by decide) ?_
      refine lv_iadd hx hb dX12_resumed_195 ?_
      obtain ⟨q196, h196, hf⟩ := bind_some hf
      refine krX12_356_X12_within F K E hA Z h196 ⟨Nat.le_of_ble_eq_true rfl, Nat.le_of_ble_eq_true rfl⟩ hl.1 (Nat.le_of_ble_eq_true rfl) dX12_resumed_196 (fun H locs Z => ?_)
      refine lv_aload_n hx hb dX12_resumed_199 rfl (lv_at hl 2 rfl) ?_
      refine gmX12_91 F K Z dX12_resumed_200 ?_
      refine lv_iload_n hx hb dX12_resumed_203 rfl (lv_at hl 3 rfl) ?_
      refine lv_bipush (v := 6) hx hb dX12_resumed_204 (by decide) ?_
      obtain ⟨i206, hf⟩ := if_some hf
      refine ms26 F K Z i206 dX12_resumed_206 (fun H locs Z => ?_)
      refine lv_aload_n hx hb dX12_resumed_207 rfl (lv_at hl 2 rfl) ?_
      refine lv_iload_n hx hb dX12_resumed_208 rfl (lv_at hl 3 rfl) ?_
      refine lv_iconst (v := 1) hx hb dX12_resumed_209 (by decide) ?_
      refine lv_iadd hx hb dX12_resumed_210 ?_
      refine lv_aload_n hx hb dX12_resumed_211 rfl (lv_at hl 2 rfl) ?_
      refine gmX12_16 F K Z dX12_resumed_212 ?_
      refine lv_aload_n hx hb dX12_resumed_215 rfl (lv_at hl 2 rfl) ?_
      refine gmX12_73 F K Z dX12_resumed_216 ?_
      refine lv_bipush (v := 60) hx hb dX12_resumed_219 (by decide) ?_
      refine lv_iload_n hx hb dX12_resumed_221 rfl (lv_at hl 3 rfl) ?_
      refine lv_imul hx hb dX12_resumed_222 ?_
      refine lv_aload_n hx hb dX12_resumed_223 rfl (lv_at hl 2 rfl) ?_
      refine gmX12_94 F K Z dX12_resumed_224 ?_
      refine lv_iload_n hx hb dX12_resumed_227 rfl (lv_at hl 3 rfl) ?_
      obtain ⟨i228, hf⟩ := if_some hf
      refine ml27 F K Z i228 dX12_resumed_228 ?_
      refine lv_iadd hx hb dX12_resumed_229 ?_
      obtain ⟨i230, hf⟩ := if_some hf
      refine ml20 F K Z i230 dX12_resumed_230 ?_
      obtain ⟨i231, hf⟩ := if_some hf
      refine ml3 F K Z i231 dX12_resumed_231 ?_
      refine lv_aload_n hx hb dX12_resumed_232 rfl (lv_at hl 2 rfl) ?_
      refine lv_iload_n hx hb dX12_resumed_233 rfl (lv_at hl 1 rfl) ?_
      obtain ⟨q234, h234, hf⟩ := bind_some hf
      refine krX12_360_X12_hypothesis F K E hA Z h234 ⟨Nat.le_of_ble_eq_true rfl, Nat.le_of_ble_eq_true rfl⟩ hl.1 (Nat.le_of_ble_eq_true rfl) dX12_resumed_234 (fun H locs Z => ?_)
      refine lv_iload_n hx hb dX12_resumed_237 rfl (lv_at hl 1 rfl) ?_
      refine lv_iconst (v := 1) hx hb dX12_resumed_238 (by decide) ?_
      refine lv_iadd hx hb dX12_resumed_239 ?_
      obtain ⟨q240, h240, hf⟩ := bind_some hf
      refine krX12_363_X12_comes F K E hA Z h240 ⟨Nat.le_of_ble_eq_true rfl, Nat.le_of_ble_eq_true rfl⟩ hl.1 (Nat.le_of_ble_eq_true rfl) dX12_resumed_240 (fun H locs Z => ?_)
      refine lv_if_eq (tgt := 253) hx hb dX12_resumed_243 (by decide) (fun c243 => ?_) (fun c243 => ?_)
      · have hf := if_t c243 hf
        refine lv_iconst (v := 3) hx hb dX12_resumed_253 (by decide) ?_
        have hf := Option.some.inj hf
        subst hf
        exact ret_i F hr hk Z dX12_resumed_254
      have hf := if_f c243 hf
      refine lv_aload_n hx hb dX12_resumed_246 rfl (lv_at hl 2 rfl) ?_
      obtain ⟨q247, h247, hf⟩ := bind_some hf
      refine krX12_367_X12_begin F K E hA Z h247 ⟨Nat.le_of_ble_eq_true rfl, Nat.le_of_ble_eq_true rfl⟩ hl.1 (Nat.le_of_ble_eq_true rfl) dX12_resumed_247 (fun H locs Z => ?_)
      refine lv_goto (tgt := 254) hx hb dX12_resumed_250 (by decide) ?_
      have hf := Option.some.inj hf
      subst hf
      exact ret_i F hr hk Z dX12_resumed_254
    have hf := if_t c168 hf
    refine lv_iconst (v := 0) hx hb dX12_resumed_171 (by decide) ?_
    have hf := Option.some.inj hf
    subst hf
    exact ret_i F hr hk Z dX12_resumed_172
  have hf := if_f c21_5 hf
  by_cases c21_6 : (st.2.1 25 (x1).toNatClampNeg) = 6
  · have hf := if_t c21_6 hf
    refine lv_tableIn (tgt := 255) hx hb dX12_resumed_21 (by rw [c21_6] <;> decide) (by rw [c21_6] <;> decide) (by rw [c21_6] <;> rfl) (by decide) ?_
    refine lv_iload_n hx hb dX12_resumed_255 rfl (lv_at hl 4 rfl) ?_
    refine lv_if_ne (tgt := 263) hx hb dX12_resumed_256 (by decide) (fun c256 => ?_) (fun c256 => ?_)
    · have hf := if_f c256 hf
      refine lv_aload_n hx hb dX12_resumed_263 rfl (lv_at hl 2 rfl) ?_
      refine lv_aload_n hx hb dX12_resumed_264 rfl (lv_at hl 2 rfl) ?_
      refine lv_bipush (v := 67) hx hb dX12_resumed_265 (by decide) ?_
      refine lv_iconst (v := 0) hx hb dX12_resumed_267 (by decide) ?_
      refine lv_aload_n hx hb dX12_resumed_268 rfl (lv_at hl 2 rfl) ?_
      refine lv_iload_n hx hb dX12_resumed_269 rfl (lv_at hl 3 rfl) ?_
      refine lv_aload_n hx hb dX12_resumed_270 rfl (lv_at hl 2 rfl) ?_
      refine gmX12_94 F K Z dX12_resumed_271 ?_
      refine lv_iload_n hx hb dX12_resumed_274 rfl (lv_at hl 3 rfl) ?_
      obtain ⟨i275, hf⟩ := if_some hf
      refine ml27 F K Z i275 dX12_resumed_275 ?_
      obtain ⟨q276, h276, hf⟩ := bind_some hf
      refine krX12_350_X12_termOf F K E hA Z h276 ⟨Nat.le_of_ble_eq_true rfl, Nat.le_of_ble_eq_true rfl⟩ hl.1 (Nat.le_of_ble_eq_true rfl) dX12_resumed_276 (fun H locs Z => ?_)
      refine lv_aload_n hx hb dX12_resumed_279 rfl (lv_at hl 2 rfl) ?_
      refine gmX12_97 F K Z dX12_resumed_280 ?_
      refine lv_iload_n hx hb dX12_resumed_283 rfl (lv_at hl 3 rfl) ?_
      obtain ⟨i284, hf⟩ := if_some hf
      refine ml28 F K Z i284 dX12_resumed_284 ?_
      refine lv_aload_n hx hb dX12_resumed_285 rfl (lv_at hl 2 rfl) ?_
      refine gmX12_347 F K Z dX12_resumed_286 ?_
      obtain ⟨q289, h289, hf⟩ := bind_some hf
      refine krX12_318_X12_term F K E hA Z h289 ⟨Nat.le_of_ble_eq_true rfl, Nat.le_of_ble_eq_true rfl⟩ hl.1 (Nat.le_of_ble_eq_true rfl) dX12_resumed_289 (fun H locs Z => ?_)
      obtain ⟨q292, h292, hf⟩ := bind_some hf
      refine krX12_353_X12_proved F K E hA Z h292 ⟨Nat.le_of_ble_eq_true rfl, Nat.le_of_ble_eq_true rfl⟩ hl.1 (Nat.le_of_ble_eq_true rfl) dX12_resumed_292 (fun H locs Z => ?_)
      have hf := Option.some.inj hf
      subst hf
      exact ret_i F hr hk Z dX12_resumed_295
    have hf := if_t c256 hf
    refine lv_iconst (v := 0) hx hb dX12_resumed_259 (by decide) ?_
    refine lv_goto (tgt := 295) hx hb dX12_resumed_260 (by decide) ?_
    have hf := Option.some.inj hf
    subst hf
    exact ret_i F hr hk Z dX12_resumed_295
  have hf := if_f c21_6 hf
  refine sw_tab (tgt := 296) hx hb dX12_resumed_21 (sw_any (fun j h1 h2 hj => ?_)) (by decide) ?_
  · rcases (show j = 1 ∨ j = 2 ∨ j = 3 ∨ j = 4 ∨ j = 5 ∨ j = 6 by omega) with rfl | rfl | rfl | rfl | rfl | rfl
    · exact absurd hj (lv_neT c21_1 (by decide))
    · exact absurd hj (lv_neT c21_2 (by decide))
    · exact absurd hj (lv_neT c21_3 (by decide))
    · exact absurd hj (lv_neT c21_4 (by decide))
    · exact absurd hj (lv_neT c21_5 (by decide))
    · exact absurd hj (lv_neT c21_6 (by decide))
  refine lv_aload_n hx hb dX12_resumed_296 rfl (lv_at hl 2 rfl) ?_
  refine lv_iload_n hx hb dX12_resumed_297 rfl (lv_at hl 3 rfl) ?_
  refine lv_iload_n hx hb dX12_resumed_298 rfl (lv_at hl 4 rfl) ?_
  refine lv_iload_n hx hb dX12_resumed_299 rfl (lv_at hl 1 rfl) ?_
  refine lv_iload hx hb dX12_resumed_300 (lv_at hl 0 rfl) ?_
  obtain ⟨q302, h302, hf⟩ := bind_some hf
  refine krX12_391_X12_resumed2 F K E hA Z h302 ⟨Nat.le_of_ble_eq_true rfl, Nat.le_of_ble_eq_true rfl⟩ hl.1 (Nat.le_of_ble_eq_true rfl) dX12_resumed_302 (fun H locs Z => ?_)
  have hf := Option.some.inj hf
  subst hf
  exact ret_i F hr hk Z dX12_resumed_305
def f_X12_search_81 (n : Nat) (k10 : StT → Int32 → Option (Int32 × StT)) (st : StT) (x1 : Int32) : Option (Int32 × StT) := if x1 = (3 : Int32) then (some ((st.1 24), st)) else (k10 st x1)
def f_X12_search_69 (n : Nat) (k10 : StT → Int32 → Option (Int32 × StT)) (st : StT) (x1 : Int32) (x2 : Int32) : Option (Int32 × StT) := if (2 : Int32) ≤ x1 then (f_X12_search_81 n k10 st x1) else (f_X12_search_81 n k10 (uF st 19 (x2 - (1 : Int32))) x1)
def f_X12_search_27 (n : Nat) (k10 : StT → Int32 → Option (Int32 × StT)) (st : StT) (x1 : Int32) : Option (Int32 × StT) := if x1 = (2 : Int32) then (if inB (st.1 19) 201 = true then (if (st.2.1 25 ((st.1 19)).toNatClampNeg) = 0 then (if inB (st.1 19) 201 = true then ((f_X12_opened n (uA st 28 (st.1 19) (-1 : Int32)) (st.1 19)).bind fun q55 => (f_X12_search_69 n k10 q55.2 q55.1 (st.1 19))) else none) else ((f_X12_opened n st (st.1 19)).bind fun q55 => (f_X12_search_69 n k10 q55.2 q55.1 (st.1 19)))) else none) else ((f_X12_resumed n st (st.1 19) x1).bind fun q65 => (f_X12_search_69 n k10 q65.2 q65.1 (st.1 19)))
def f_X12_search_94 (n : Nat) (st : StT) (x1 : Int32) : Option (Int32 × StT) := if x1 = (3 : Int32) then (some ((st.1 24), st)) else (some (x1, st))
def f_X12_search_10 (n : Nat) : Nat → StT → Int32 → Option (Int32 × StT)
  | 0, _, _ => none
  | k + 1, st, x1 => if x1 = (2 : Int32) then (f_X12_search_27 n (f_X12_search_10 n k) st x1) else (if (st.1 19) < 0 then (f_X12_search_94 n st x1) else (if (2 : Int32) ≤ x1 then (f_X12_search_94 n st x1) else (f_X12_search_27 n (f_X12_search_10 n k) st x1)))
def f_X12_search (n : Nat) (st : StT) : Option (Int32 × StT) := (f_X12_begin n (uF st 19 (-1 : Int32))).bind fun q6 => (f_X12_search_10 n n q6.2 q6.1)
theorem wd1196 : Cond.methodLink RX12 401 yX12_resumed ∈ Gw := gT8 (List.mem_of_getElem? (i := 153) rfl) rfl
theorem wd1197 : Cond.code yX12_resumed prog_14_method_40_code 5 (some .int) ∈ Gw := gT8 (List.mem_of_getElem? (i := 156) rfl) rfl
theorem wd1198 : Cond.instanceMethod yX12_resumed ∈ Gw := gT8 (List.mem_of_getElem? (i := 155) rfl) rfl
theorem wd1199 : Cond.selects RX12 yX12_resumed yX12_resumed ∈ Gw := gP8 (q := (yX12_resumed, 98)) (List.mem_of_getElem? (i := 7) rfl)
theorem wd1200 : Cond.methodLink RX12 398 yX12_opened ∈ Gw := gT8 (List.mem_of_getElem? (i := 113) rfl) rfl
theorem wd1201 : Cond.code yX12_opened prog_14_method_35_code 5 (some .int) ∈ Gw := gT8 (List.mem_of_getElem? (i := 116) rfl) rfl
theorem wd1202 : Cond.instanceMethod yX12_opened ∈ Gw := gT8 (List.mem_of_getElem? (i := 115) rfl) rfl
theorem wd1203 : Cond.selects RX12 yX12_opened yX12_opened ∈ Gw := gP7 (q := (yX12_opened, 98)) (List.mem_of_getElem? (i := 13) rfl)
section
variable {p : Program} {l : Launch} {e : Env} {R : Room} {s : State} {m : MethodId} {args : Array Value} {below : List Frame} {meth : Method} {c : Code} {H : Heap} {locs : List Loc} {Q : State → Prop}
variable {cc : ByteArray} {nL pc : Nat} {ls : Array Slot} {rest : List Value} {D : va_G} {A : Nat → Prop} {cw : Cond} {ad : Nat → Nat} {cy : Nat → ClassId} {ee : EE} {st : StT} {own : String}
theorem gmX12_325 (F : CallFix p m c cc nL s args (cw :: Gw) RX12) (K : va_K D vwCl (tyL cy) s) (Z : ZG D (wM ad cy st) A s H locs) (hd : decode cc pc = .ok (.getfield 325, 3)) (kk : W p l e R s m args below meth c H locs 0 0 Q (F0 m (pc + 3) ls (.int (st.1 24) :: rest))) : W p l e R s m args below meth c H locs 0 0 Q (F0 m pc ls (.ref (ad 0) :: rest)) :=
  va_get (D := D) (ci := 12) (C := RX12) (T := TX12) (N := 98) F.1 F.2.1 F.2.2.2.2 (fun w h => List.mem_cons_of_mem _ (inG_X12 w h)) F.2.2.2.1 K Z.1 0 rfl rfl 53 (by decide) (F.2.2.2.2 _ (List.mem_cons_of_mem _ wd1123)) (fun _ h => h) rfl hd kk
theorem krX12_401_X12_resumed {n : Nat} {a0 : Int32} {a1 : Int32} {q : (Int32 × StT)} (F : CallFix p m c cc nL s args (cw :: Gw) RX12) (K : va_K D vwCl (tyL cy) s) (E : EV ee A s s.heap) (hA : ∀ q, s.heap.size ≤ q → A q) (Z : ZG D (wM ad cy st) A s H locs) (hf : f_X12_resumed n st a0 a1 = some q) (hR : 5 ≤ R.frames ∧ 131 ≤ R.locals) (hl : ls.size = nL) (hst : (rest.map fun v => v.category).sum ≤ 8) (hd : decode cc pc = .ok (.invokevirtual 401, 3)) (kk : ∀ (H1 : Heap) (locs1 : List Loc), ZG D (wM ad cy q.2) A s H1 locs1 → W p l e R s m args below meth c H1 locs1 0 0 Q (F0 m (pc + 3) ls (.int q.1 :: rest))) : W p l e R s m args below meth c H locs 0 0 Q (F0 m pc ls (.int a1 :: .int a0 :: .ref (ad 0) :: rest)) :=
  call_V (q := (RX12, TX12, 98)) (n := 2) (As := [.int a0, .int a1]) (rv := some (.int q.1)) 0 12 F K E hA Z (c_X12_resumed (l := l) (D := D) (ad := ad) (cy := cy) (ee := ee) hf) ⟨wd1197, wd1196, wd1198, wd1199, wd1008⟩ (by decide +kernel) rfl rfl hR rfl hl hst hd kk
theorem krX12_398_X12_opened {n : Nat} {a0 : Int32} {q : (Int32 × StT)} (F : CallFix p m c cc nL s args (cw :: Gw) RX12) (K : va_K D vwCl (tyL cy) s) (E : EV ee A s s.heap) (hA : ∀ q, s.heap.size ≤ q → A q) (Z : ZG D (wM ad cy st) A s H locs) (hf : f_X12_opened n st a0 = some q) (hR : 5 ≤ R.frames ∧ 132 ≤ R.locals) (hl : ls.size = nL) (hst : (rest.map fun v => v.category).sum ≤ 8) (hd : decode cc pc = .ok (.invokevirtual 398, 3)) (kk : ∀ (H1 : Heap) (locs1 : List Loc), ZG D (wM ad cy q.2) A s H1 locs1 → W p l e R s m args below meth c H1 locs1 0 0 Q (F0 m (pc + 3) ls (.int q.1 :: rest))) : W p l e R s m args below meth c H locs 0 0 Q (F0 m pc ls (.int a0 :: .ref (ad 0) :: rest)) :=
  call_V (q := (RX12, TX12, 98)) (n := 1) (As := [.int a0]) (rv := some (.int q.1)) 0 12 F K E hA Z (c_X12_opened (l := l) (D := D) (ad := ad) (cy := cy) (ee := ee) hf) ⟨wd1201, wd1200, wd1202, wd1203, wd1008⟩ (by decide +kernel) rfl rfl hR rfl hl hst hd kk
end
set_option maxRecDepth 100000 in
set_option maxHeartbeats 4000000 in
theorem b_X12_search_81 {p : Program} {l : Launch} {e : Env} {s : State} {m : MethodId} {args : Array Value} {below : List Frame} {meth : Method} {c : Code} {D : va_G} {A : Nat → Prop} {ad : Nat → Nat} {cy : Nat → ClassId} {ee : EE} {n : Nat} {res : (Int32 × StT)} (F : CallFix p m c cX12_search 3 s args (Cond.code yX12_search cX12_search 3 (some .int) :: Gw) yX12_search.cls) (hr : meth.sig.returnType = (some .int)) (hk : meth.locks = false) (K : va_K D vwCl (tyL cy) s) (E : EV ee A s s.heap) (hA : ∀ q, s.heap.size ≤ q → A q) {k10 : StT → Int32 → Option (Int32 × StT)} (hk10 : ∀ (st : StT) (x1 : Int32), k10 st x1 = some res → ∀ (H : Heap) (locs : List Loc) (ls : Array Slot), ZG D (wM ad cy st) A s H locs → lv_has ls 3 [(0, .ref (ad 0)), (1, .int x1)] → W p l e { frames := 5, cells := 0, slots := 0, locals := 132 } s m args below meth c H locs 0 0 (MQ below (QC D (some (.int res.1)) (wM ad cy res.2) A) args s 0 0 A) (F0 m 10 ls [])) : ∀ (st : StT) (x1 : Int32), f_X12_search_81 n k10 st x1 = some res → ∀ (H : Heap) (locs : List Loc) (ls : Array Slot), ZG D (wM ad cy st) A s H locs → lv_has ls 3 [(0, .ref (ad 0)), (1, .int x1)] → W p l e { frames := 5, cells := 0, slots := 0, locals := 132 } s m args below meth c H locs 0 0 (MQ below (QC D (some (.int res.1)) (wM ad cy res.2) A) args s 0 0 A) (F0 m 81 ls []) := by
  have hx := F.1
  have hb := F.2.1
  intro st x1 hf H locs ls Z hl
  unfold f_X12_search_81 at hf
  refine lv_iload_n hx hb dX12_search_81 rfl (lv_at hl 1 rfl) ?_
  refine lv_iconst (v := 3) hx hb dX12_search_82 (by decide) ?_
  refine lv_icmp_ne (tgt := 91) hx hb dX12_search_83 (by decide) (fun c83 => ?_) (fun c83 => ?_)
  · have hf := if_f c83 hf
    refine lv_goto (tgt := 10) hx hb dX12_search_91 (by decide) ?_
    exact hk10 _ _ hf _ _ _ Z hl
  have hf := if_t c83 hf
  refine lv_aload_n hx hb dX12_search_86 rfl (lv_at hl 0 rfl) ?_
  refine gmX12_325 F K Z dX12_search_87 ?_
  have hf := Option.some.inj hf
  subst hf
  exact ret_i F hr hk Z dX12_search_90
set_option maxRecDepth 100000 in
set_option maxHeartbeats 4000000 in
theorem b_X12_search_69 {p : Program} {l : Launch} {e : Env} {s : State} {m : MethodId} {args : Array Value} {below : List Frame} {meth : Method} {c : Code} {D : va_G} {A : Nat → Prop} {ad : Nat → Nat} {cy : Nat → ClassId} {ee : EE} {n : Nat} {res : (Int32 × StT)} (F : CallFix p m c cX12_search 3 s args (Cond.code yX12_search cX12_search 3 (some .int) :: Gw) yX12_search.cls) (hr : meth.sig.returnType = (some .int)) (hk : meth.locks = false) (K : va_K D vwCl (tyL cy) s) (E : EV ee A s s.heap) (hA : ∀ q, s.heap.size ≤ q → A q) {k10 : StT → Int32 → Option (Int32 × StT)} (hk10 : ∀ (st : StT) (x1 : Int32), k10 st x1 = some res → ∀ (H : Heap) (locs : List Loc) (ls : Array Slot), ZG D (wM ad cy st) A s H locs → lv_has ls 3 [(0, .ref (ad 0)), (1, .int x1)] → W p l e { frames := 5, cells := 0, slots := 0, locals := 132 } s m args below meth c H locs 0 0 (MQ below (QC D (some (.int res.1)) (wM ad cy res.2) A) args s 0 0 A) (F0 m 10 ls [])) : ∀ (st : StT) (x1 : Int32) (x2 : Int32), f_X12_search_69 n k10 st x1 x2 = some res → ∀ (H : Heap) (locs : List Loc) (ls : Array Slot), ZG D (wM ad cy st) A s H locs → lv_has ls 3 [(0, .ref (ad 0)), (1, .int x1), (2, .int x2)] → W p l e { frames := 5, cells := 0, slots := 0, locals := 132 } s m args below meth c H locs 0 0 (MQ below (QC D (some (.int res.1)) (wM ad cy res.2) A) args s 0 0 A) (F0 m 69 ls []) := by
  have hx := F.1
  have hb := F.2.1
  intro st x1 x2 hf H locs ls Z hl
  unfold f_X12_search_69 at hf
  refine lv_iload_n hx hb dX12_search_69 rfl (lv_at hl 1 rfl) ?_
  refine lv_iconst (v := 2) hx hb dX12_search_70 (by decide) ?_
  refine lv_icmp_ge (tgt := 81) hx hb dX12_search_71 (by decide) (fun c71 => ?_) (fun c71 => ?_)
  · have hf := if_t c71 hf
    exact b_X12_search_81 F hr hk K E hA hk10 _ _ hf _ _ _ Z (lv_sub hl [0, 1] rfl)
  have hf := if_f c71 hf
  refine lv_aload_n hx hb dX12_search_74 rfl (lv_at hl 0 rfl) ?_
  refine lv_iload_n hx hb dX12_search_75 rfl (lv_at hl 2 rfl) ?_
  refine lv_iconst (v := 1) hx hb dX12_search_76 (by decide) ?_
  refine lv_isub hx hb dX12_search_77 ?_
  refine pmX12_335 F K Z dX12_search_78 (fun H locs Z => ?_)
  exact b_X12_search_81 F hr hk K E hA hk10 _ _ hf _ _ _ Z (lv_sub hl [0, 1] rfl)
set_option maxRecDepth 100000 in
set_option maxHeartbeats 4000000 in
theorem b_X12_search_27 {p : Program} {l : Launch} {e : Env} {s : State} {m : MethodId} {args : Array Value} {below : List Frame} {meth : Method} {c : Code} {D : va_G} {A : Nat → Prop} {ad : Nat → Nat} {cy : Nat → ClassId} {ee : EE} {n : Nat} {res : (Int32 × StT)} (F : CallFix p m c cX12_search 3 s args (Cond.code yX12_search cX12_search 3 (some .int) :: Gw) yX12_search.cls) (hr : meth.sig.returnType = (some .int)) (hk : meth.locks = false) (K : va_K D vwCl (tyL cy) s) (E : EV ee A s s.heap) (hA : ∀ q, s.heap.size ≤ q → A q) {k10 : StT → Int32 → Option (Int32 × StT)} (hk10 : ∀ (st : StT) (x1 : Int32), k10 st x1 = some res → ∀ (H : Heap) (locs : List Loc) (ls : Array Slot), ZG D (wM ad cy st) A s H locs → lv_has ls 3 [(0, .ref (ad 0)), (1, .int x1)] → W p l e { frames := 5, cells := 0, slots := 0, locals := 132 } s m args below meth c H locs 0 0 (MQ below (QC D (some (.int res.1)) (wM ad cy res.2) A) args s 0 0 A) (F0 m 10 ls [])) : ∀ (st : StT) (x1 : Int32), f_X12_search_27 n k10 st x1 = some res → ∀ (H : Heap) (locs : List Loc) (ls : Array Slot), ZG D (wM ad cy st) A s H locs → lv_has ls 3 [(0, .ref (ad 0)), (1, .int x1)] → W p l e { frames := 5, cells := 0, slots := 0, locals := 132 } s m args below meth c H locs 0 0 (MQ below (QC D (some (.int res.1)) (wM ad cy res.2) A) args s 0 0 A) (F0 m 27 ls []) := by
  have hx := F.1
  have hb := F.2.1
  intro st x1 hf H locs ls Z hl
  unfold f_X12_search_27 at hf
  refine lv_aload_n hx hb dX12_search_27 rfl (lv_at hl 0 rfl) ?_
  refine gmX12_335 F K Z dX12_search_28 ?_
  refine lv_istore_n (lv' := [(2, .int (st.1 19)), (0, .ref (ad 0)), (1, .int x1)]) hx hb dX12_search_31 rfl hl (by decide) rfl (fun ls hl => ?_)
  refine lv_iload_n hx hb dX12_search_32 rfl (lv_at hl 2 rfl) ?_
  refine lv_iconst (v := 2) hx hb dX12_search_33 (by decide) ?_
  refine lv_icmp_ne (tgt := 62) hx hb dX12_search_34 (by decide) (fun c34 => ?_) (fun c34 => ?_)
  · have hf := if_f c34 hf
    refine lv_aload_n hx hb dX12_search_62 rfl (lv_at hl 1 rfl) ?_
    refine lv_iload_n hx hb dX12_search_63 rfl (lv_at hl 0 rfl) ?_
    refine lv_iload_n hx hb dX12_search_64 rfl (lv_at hl 2 rfl) ?_
    obtain ⟨q65, h65, hf⟩ := bind_some hf
    refine krX12_401_X12_resumed F K E hA Z h65 ⟨Nat.le_of_ble_eq_true rfl, Nat.le_of_ble_eq_true rfl⟩ hl.1 (Nat.le_of_ble_eq_true rfl) dX12_search_65 (fun H locs Z => ?_)
    refine lv_istore_n (lv' := [(1, .int q65.1), (2, .int (st.1 19)), (0, .ref (ad 0))]) hx hb dX12_search_68 rfl hl (by decide) rfl (fun ls hl => ?_)
    exact b_X12_search_69 F hr hk K E hA hk10 _ _ _ hf _ _ _ Z (lv_sub hl [2, 0, 1] rfl)
  have hf := if_t c34 hf
  refine lv_aload_n hx hb dX12_search_37 rfl (lv_at hl 1 rfl) ?_
  refine gmX12_91 F K Z dX12_search_38 ?_
  refine lv_iload_n hx hb dX12_search_41 rfl (lv_at hl 0 rfl) ?_
  obtain ⟨i42, hf⟩ := if_some hf
  refine ml26 F K Z i42 dX12_search_42 ?_
  refine lv_if_ne (tgt := 53) hx hb dX12_search_43 (by decide) (fun c43 => ?_) (fun c43 => ?_)
  · have hf := if_f c43 hf
    refine lv_aload_n hx hb dX12_search_53 rfl (lv_at hl 1 rfl) ?_
    refine lv_iload_n hx hb dX12_search_54 rfl (lv_at hl 0 rfl) ?_
    obtain ⟨q55, h55, hf⟩ := bind_some hf
    refine krX12_398_X12_opened F K E hA Z h55 ⟨Nat.le_of_ble_eq_true rfl, Nat.le_of_ble_eq_true rfl⟩ hl.1 (Nat.le_of_ble_eq_true rfl) dX12_search_55 (fun H locs Z => ?_)
    refine lv_istore_n (lv' := [(1, .int q55.1), (2, .int (st.1 19)), (0, .ref (ad 0))]) hx hb dX12_search_58 rfl hl (by decide) rfl (fun ls hl => ?_)
    refine lv_goto (tgt := 69) hx hb dX12_search_59 (by decide) ?_
    exact b_X12_search_69 F hr hk K E hA hk10 _ _ _ hf _ _ _ Z (lv_sub hl [2, 0, 1] rfl)
  have hf := if_t c43 hf
  refine lv_aload_n hx hb dX12_search_46 rfl (lv_at hl 1 rfl) ?_
  refine gmX12_100 F K Z dX12_search_47 ?_
  refine lv_iload_n hx hb dX12_search_50 rfl (lv_at hl 0 rfl) ?_
  refine lv_iconst (v := -1) hx hb dX12_search_51 (by decide) ?_
  obtain ⟨i52, hf⟩ := if_some hf
  refine ms29 F K Z i52 dX12_search_52 (fun H locs Z => ?_)
  refine lv_aload_n hx hb dX12_search_53 rfl (lv_at hl 1 rfl) ?_
  refine lv_iload_n hx hb dX12_search_54 rfl (lv_at hl 0 rfl) ?_
  obtain ⟨q55, h55, hf⟩ := bind_some hf
  refine krX12_398_X12_opened F K E hA Z h55 ⟨Nat.le_of_ble_eq_true rfl, Nat.le_of_ble_eq_true rfl⟩ hl.1 (Nat.le_of_ble_eq_true rfl) dX12_search_55 (fun H locs Z => ?_)
  refine lv_istore_n (lv' := [(1, .int q55.1), (2, .int (st.1 19)), (0, .ref (ad 0))]) hx hb dX12_search_58 rfl hl (by decide) rfl (fun ls hl => ?_)
  refine lv_goto (tgt := 69) hx hb dX12_search_59 (by decide) ?_
  exact b_X12_search_69 F hr hk K E hA hk10 _ _ _ hf _ _ _ Z (lv_sub hl [2, 0, 1] rfl)
set_option maxRecDepth 100000 in
set_option maxHeartbeats 4000000 in
theorem b_X12_search_94 {p : Program} {l : Launch} {e : Env} {s : State} {m : MethodId} {args : Array Value} {below : List Frame} {meth : Method} {c : Code} {D : va_G} {A : Nat → Prop} {ad : Nat → Nat} {cy : Nat → ClassId} {ee : EE} {n : Nat} {res : (Int32 × StT)} (F : CallFix p m c cX12_search 3 s args (Cond.code yX12_search cX12_search 3 (some .int) :: Gw) yX12_search.cls) (hr : meth.sig.returnType = (some .int)) (hk : meth.locks = false) (K : va_K D vwCl (tyL cy) s) (E : EV ee A s s.heap) (hA : ∀ q, s.heap.size ≤ q → A q) : ∀ (st : StT) (x1 : Int32), f_X12_search_94 n st x1 = some res → ∀ (H : Heap) (locs : List Loc) (ls : Array Slot), ZG D (wM ad cy st) A s H locs → lv_has ls 3 [(0, .ref (ad 0)), (1, .int x1)] → W p l e { frames := 5, cells := 0, slots := 0, locals := 132 } s m args below meth c H locs 0 0 (MQ below (QC D (some (.int res.1)) (wM ad cy res.2) A) args s 0 0 A) (F0 m 94 ls []) := by
  have hx := F.1
  have hb := F.2.1
  intro st x1 hf H locs ls Z hl
  unfold f_X12_search_94 at hf
  refine lv_iload_n hx hb dX12_search_94 rfl (lv_at hl 1 rfl) ?_
  refine lv_iconst (v := 3) hx hb dX12_search_95 (by decide) ?_
  refine lv_icmp_ne (tgt := 106) hx hb dX12_search_96 (by decide) (fun c96 => ?_) (fun c96 => ?_)
  · have hf := if_f c96 hf
    refine lv_iload_n hx hb dX12_search_106 rfl (lv_at hl 1 rfl) ?_
    have hf := Option.some.inj hf
    subst hf
    exact ret_i F hr hk Z dX12_search_107
  have hf := if_t c96 hf
  refine lv_aload_n hx hb dX12_search_99 rfl (lv_at hl 0 rfl) ?_
  refine gmX12_325 F K Z dX12_search_100 ?_
  refine lv_goto (tgt := 107) hx hb dX12_search_103 (by decide) ?_
  have hf := Option.some.inj hf
  subst hf
  exact ret_i F hr hk Z dX12_search_107
set_option maxRecDepth 100000 in
set_option maxHeartbeats 4000000 in
theorem b_X12_search_10 {p : Program} {l : Launch} {e : Env} {s : State} {m : MethodId} {args : Array Value} {below : List Frame} {meth : Method} {c : Code} {D : va_G} {A : Nat → Prop} {ad : Nat → Nat} {cy : Nat → ClassId} {ee : EE} {n : Nat} {res : (Int32 × StT)} (F : CallFix p m c cX12_search 3 s args (Cond.code yX12_search cX12_search 3 (some .int) :: Gw) yX12_search.cls) (hr : meth.sig.returnType = (some .int)) (hk : meth.locks = false) (K : va_K D vwCl (tyL cy) s) (E : EV ee A s s.heap) (hA : ∀ q, s.heap.size ≤ q → A q) : ∀ (k : Nat) (st : StT) (x1 : Int32), f_X12_search_10 n k st x1 = some res → ∀ (H : Heap) (locs : List Loc) (ls : Array Slot), ZG D (wM ad cy st) A s H locs → lv_has ls 3 [(0, .ref (ad 0)), (1, .int x1)] → W p l e { frames := 5, cells := 0, slots := 0, locals := 132 } s m args below meth c H locs 0 0 (MQ below (QC D (some (.int res.1)) (wM ad cy res.2) A) args s 0 0 A) (F0 m 10 ls []) := by
  have hx := F.1
  have hb := F.2.1
  intro k
  induction k with
  | zero =>
    intro st x1 hf
    exact absurd hf (by simp [f_X12_search_10])
  | succ k ih =>
    intro st x1 hf H locs ls Z hl
    rw [f_X12_search_10] at hf
    refine lv_iload_n hx hb dX12_search_10 rfl (lv_at hl 1 rfl) ?_
    refine lv_iconst (v := 2) hx hb dX12_search_11 (by decide) ?_
    refine lv_icmp_eq (tgt := 27) hx hb dX12_search_12 (by decide) (fun c12 => ?_) (fun c12 => ?_)
    · have hf := if_t c12 hf
      exact b_X12_search_27 F hr hk K E hA ih _ _ hf _ _ _ Z hl
    have hf := if_f c12 hf
    refine lv_aload_n hx hb dX12_search_15 rfl (lv_at hl 0 rfl) ?_
    refine gmX12_335 F K Z dX12_search_16 ?_
    refine lv_if_lt (tgt := 94) hx hb dX12_search_19 (by decide) (fun c19 => ?_) (fun c19 => ?_)
    · have hf := if_t c19 hf
      exact b_X12_search_94 F hr hk K E hA _ _ hf _ _ _ Z hl
    have hf := if_f c19 hf
    refine lv_iload_n hx hb dX12_search_22 rfl (lv_at hl 1 rfl) ?_
    refine lv_iconst (v := 2) hx hb dX12_search_23 (by decide) ?_
    refine lv_icmp_ge (tgt := 94) hx hb dX12_search_24 (by decide) (fun c24 => ?_) (fun c24 => ?_)
    · have hf := if_t c24 hf
      exact b_X12_search_94 F hr hk K E hA _ _ hf _ _ _ Z hl
    have hf := if_f c24 hf
    exact b_X12_search_27 F hr hk K E hA ih _ _ hf _ _ _ Z hl
set_option maxRecDepth 100000 in
set_option maxHeartbeats 4000000 in
theorem c_X12_search {l : Launch} {D : va_G} {ad : Nat → Nat} {cy : Nat → ClassId} {ee : EE} {n : Nat} {st : StT} {res : (Int32 × StT)} (hf : f_X12_search n st = some res) : CT l yX12_search cX12_search 3 (some .int) 5 132 D cy ee (wM ad cy st) (wM ad cy res.2) [.ref (ad 0)] (some (.int res.1)) := by
  refine CT.of (by decide +kernel) (Nat.le_of_ble_eq_true rfl) ?_
  intro p e s m args below meth c A F hr hk K E hA Z ls hl
  have hl : lv_has ls 3 [(0, .ref (ad 0))] := hl
  have hx := F.1
  have hb := F.2.1
  unfold f_X12_search at hf
  refine lv_aload_n hx hb dX12_search_0 rfl (lv_at hl 0 rfl) ?_
  refine lv_iconst (v := -1) hx hb dX12_search_1 (by decide) ?_
  refine pmX12_335 F K Z dX12_search_2 (fun H locs Z => ?_)
  refine lv_aload_n hx hb dX12_search_5 rfl (lv_at hl 0 rfl) ?_
  obtain ⟨q6, h6, hf⟩ := bind_some hf
  refine krX12_367_X12_begin F K E hA Z h6 ⟨Nat.le_of_ble_eq_true rfl, Nat.le_of_ble_eq_true rfl⟩ hl.1 (Nat.le_of_ble_eq_true rfl) dX12_search_6 (fun H locs Z => ?_)
  refine lv_istore_n (lv' := [(1, .int q6.1), (0, .ref (ad 0))]) hx hb dX12_search_9 rfl hl (by decide) rfl (fun ls hl => ?_)
  exact b_X12_search_10 F hr hk K E hA _ _ _ hf _ _ _ Z (lv_sub hl [1, 0] rfl)
