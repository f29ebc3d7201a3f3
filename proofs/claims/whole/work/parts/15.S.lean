def f_X5_kept_42 (n : Nat) (st : StT) (x1 : Int32) : Option (Int32 × StT) := if x1 < 0 then (some ((-1 : Int32), st)) else (if (200 : Int32) ≤ x1 then (some ((-1 : Int32), st)) else (if inB x1 200 = true then (some ((st.2.1 31 (x1).toNatClampNeg), st)) else none))
theorem wd112 : Cond.laysFinal RX5 "WorldProver$Search" "formulas" "LWorldProver$Formulas;" ∈ Gw := gT2 (List.mem_of_getElem? (i := 45) rfl) rfl
theorem wd113 : Cond.laysFinal RX5 "WorldProver$Search" "terms" "LWorldProver$Terms;" ∈ Gw := gT2 (List.mem_of_getElem? (i := 47) rfl) rfl
theorem wd114 : Cond.laysFinal RX5 "WorldProver$Search" "sequents" "LWorldProver$Sequents;" ∈ Gw := gT2 (List.mem_of_getElem? (i := 49) rfl) rfl
theorem wd115 : Cond.laysFinal RX5 "WorldProver$Search" "refutations" "LWorldProver$Refutations;" ∈ Gw := gT2 (List.mem_of_getElem? (i := 51) rfl) rfl
theorem wd116 : Cond.laysFinal RX5 "WorldProver$Search" "stages" "[I" ∈ Gw := gT2 (List.mem_of_getElem? (i := 53) rfl) rfl
theorem wd117 : Cond.laysFinal RX5 "WorldProver$Search" "picks" "[I" ∈ Gw := gT2 (List.mem_of_getElem? (i := 55) rfl) rfl
theorem wd118 : Cond.laysFinal RX5 "WorldProver$Search" "helds" "[I" ∈ Gw := gT2 (List.mem_of_getElem? (i := 57) rfl) rfl
theorem wd119 : Cond.laysFinal RX5 "WorldProver$Search" "bounds" "[I" ∈ Gw := gT2 (List.mem_of_getElem? (i := 59) rfl) rfl
theorem wd120 : Cond.lays RX5 "WorldProver$Search" "limit" "I" ∈ Gw := gT2 (List.mem_of_getElem? (i := 61) rfl) rfl
theorem wd121 : Cond.lays RX5 "WorldProver$Search" "steps" "I" ∈ Gw := gT2 (List.mem_of_getElem? (i := 63) rfl) rfl
theorem wd122 : Cond.lays RX5 "WorldProver$Search" "deepest" "I" ∈ Gw := gT2 (List.mem_of_getElem? (i := 65) rfl) rfl
theorem wd123 : Cond.lays RX5 "WorldProver$Search" "answer" "I" ∈ Gw := gT2 (List.mem_of_getElem? (i := 67) rfl) rfl
theorem wd124 : Cond.lays RX5 "WorldProver$Search" "givenMany" "I" ∈ Gw := gT2 (List.mem_of_getElem? (i := 69) rfl) rfl
theorem wd125 : Cond.lays RX5 "WorldProver$Search" "found" "I" ∈ Gw := gT2 (List.mem_of_getElem? (i := 71) rfl) rfl
theorem wd126 : Cond.fieldLink RX5 58 "WorldProver$Search" "limit" "I" ∈ Gw := gT2 (List.mem_of_getElem? (i := 34) rfl) rfl
theorem wd127 : Cond.fieldLink RX5 61 "WorldProver$Search" "steps" "I" ∈ Gw := gT2 (List.mem_of_getElem? (i := 35) rfl) rfl
theorem wd128 : Cond.fieldLink RX5 64 "WorldProver$Search" "deepest" "I" ∈ Gw := gT2 (List.mem_of_getElem? (i := 37) rfl) rfl
theorem wd129 : Cond.fieldLink RX5 67 "WorldProver$Search" "givenMany" "I" ∈ Gw := gT2 (List.mem_of_getElem? (i := 41) rfl) rfl
theorem wd130 : Cond.fieldLink RX5 51 "WorldProver$Search" "found" "I" ∈ Gw := gT2 (List.mem_of_getElem? (i := 43) rfl) rfl
theorem wd131 : Cond.fieldLink RX5 16 "WorldProver$Search" "terms" "LWorldProver$Terms;" ∈ Gw := gT2 (List.mem_of_getElem? (i := 24) rfl) rfl
theorem wd132 : Cond.fieldLink RX5 30 "WorldProver$Search" "refutations" "LWorldProver$Refutations;" ∈ Gw := gT2 (List.mem_of_getElem? (i := 28) rfl) rfl
theorem wd133 : Cond.fieldLink RX5 23 "WorldProver$Search" "sequents" "LWorldProver$Sequents;" ∈ Gw := gT2 (List.mem_of_getElem? (i := 26) rfl) rfl
theorem wd134 : Cond.fieldLink RX5 47 "WorldProver$Search" "answer" "I" ∈ Gw := gT2 (List.mem_of_getElem? (i := 39) rfl) rfl
theorem wd135 : Cond.fieldLink RX5 34 "WorldProver$Search" "stages" "[I" ∈ Gw := gT2 (List.mem_of_getElem? (i := 30) rfl) rfl
theorem wd136 : Cond.fieldLink RX5 54 "WorldProver$Search" "formulas" "LWorldProver$Formulas;" ∈ Gw := gT2 (List.mem_of_getElem? (i := 23) rfl) rfl
theorem wd137 : Cond.fieldLink RX5 38 "WorldProver$Search" "picks" "[I" ∈ Gw := gT2 (List.mem_of_getElem? (i := 31) rfl) rfl
theorem inG_X5 : ∀ w ∈ u_ws RX5 TX5 14, w ∈ Gw := by
  intro w h
  obtain ⟨k, hk, rfl⟩ := List.mem_map.mp h
  have hk := List.mem_range.mp hk
  by_cases h0 : k = 0
  · subst h0; exact wd112
  by_cases h1 : k = 1
  · subst h1; exact wd113
  by_cases h2 : k = 2
  · subst h2; exact wd114
  by_cases h3 : k = 3
  · subst h3; exact wd115
  by_cases h4 : k = 4
  · subst h4; exact wd116
  by_cases h5 : k = 5
  · subst h5; exact wd117
  by_cases h6 : k = 6
  · subst h6; exact wd118
  by_cases h7 : k = 7
  · subst h7; exact wd119
  by_cases h8 : k = 8
  · subst h8; exact wd120
  by_cases h9 : k = 9
  · subst h9; exact wd121
  by_cases h10 : k = 10
  · subst h10; exact wd122
  by_cases h11 : k = 11
  · subst h11; exact wd123
  by_cases h12 : k = 12
  · subst h12; exact wd124
  by_cases h13 : k = 13
  · subst h13; exact wd125
  omega
section
variable {p : Program} {l : Launch} {e : Env} {R : Room} {s : State} {m : MethodId} {args : Array Value} {below : List Frame} {meth : Method} {c : Code} {H : Heap} {locs : List Loc} {Q : State → Prop}
variable {cc : ByteArray} {nL pc : Nat} {ls : Array Slot} {rest : List Value} {D : va_G} {A : Nat → Prop} {cw : Cond} {ad : Nat → Nat} {cy : Nat → ClassId} {ee : EE} {st : StT} {own : String}
theorem prX5_58_23 {v : Int32} (F : CallFix p m c cc nL s args (cw :: Gw) RX5) (K : va_K D vwCl (tyL cy) s) (Z : ZG D (wC ad cy st) A s H locs) (hd : decode cc pc = .ok (.putfield 58, 3)) (kk : ∀ (H1 : Heap) (locs1 : List Loc), ZG D (wC ad cy (uF st 19 v)) A s H1 locs1 → W p l e R s m args below meth c H1 locs1 0 0 Q (F0 m (pc + 3) ls rest)) : W p l e R s m args below meth c H locs 0 0 Q (F0 m pc ls (.int v :: .ref (ad 23) :: rest)) :=
  va_put (D := D) (ci := 5) (v := .int v) (ty := .int) (C := RX5) (T := TX5) (N := 14) F.1 F.2.1 F.2.2.2.2 (fun w h => List.mem_cons_of_mem _ (inG_X5 w h)) tyX5 tyX5_ok nmX5 F.2.2.2.1 K Z.1 Z.2.1 Z.2.2 23 rfl rfl 8 (by decide) (F.2.2.2.2 _ (List.mem_cons_of_mem _ wd126)) (fun _ h => h) rfl (by decide +kernel) rfl rfl (Nat.le_of_ble_eq_true rfl) hd (fun H1 locs1 hP hD hS => kk H1 locs1 ⟨hP, hD, hS⟩)
theorem prX5_61_23 {v : Int32} (F : CallFix p m c cc nL s args (cw :: Gw) RX5) (K : va_K D vwCl (tyL cy) s) (Z : ZG D (wC ad cy st) A s H locs) (hd : decode cc pc = .ok (.putfield 61, 3)) (kk : ∀ (H1 : Heap) (locs1 : List Loc), ZG D (wC ad cy (uF st 20 v)) A s H1 locs1 → W p l e R s m args below meth c H1 locs1 0 0 Q (F0 m (pc + 3) ls rest)) : W p l e R s m args below meth c H locs 0 0 Q (F0 m pc ls (.int v :: .ref (ad 23) :: rest)) :=
  va_put (D := D) (ci := 5) (v := .int v) (ty := .int) (C := RX5) (T := TX5) (N := 14) F.1 F.2.1 F.2.2.2.2 (fun w h => List.mem_cons_of_mem _ (inG_X5 w h)) tyX5 tyX5_ok nmX5 F.2.2.2.1 K Z.1 Z.2.1 Z.2.2 23 rfl rfl 9 (by decide) (F.2.2.2.2 _ (List.mem_cons_of_mem _ wd127)) (fun _ h => h) rfl (by decide +kernel) rfl rfl (Nat.le_of_ble_eq_true rfl) hd (fun H1 locs1 hP hD hS => kk H1 locs1 ⟨hP, hD, hS⟩)
theorem prX5_64_23 {v : Int32} (F : CallFix p m c cc nL s args (cw :: Gw) RX5) (K : va_K D vwCl (tyL cy) s) (Z : ZG D (wC ad cy st) A s H locs) (hd : decode cc pc = .ok (.putfield 64, 3)) (kk : ∀ (H1 : Heap) (locs1 : List Loc), ZG D (wC ad cy (uF st 21 v)) A s H1 locs1 → W p l e R s m args below meth c H1 locs1 0 0 Q (F0 m (pc + 3) ls rest)) : W p l e R s m args below meth c H locs 0 0 Q (F0 m pc ls (.int v :: .ref (ad 23) :: rest)) :=
  va_put (D := D) (ci := 5) (v := .int v) (ty := .int) (C := RX5) (T := TX5) (N := 14) F.1 F.2.1 F.2.2.2.2 (fun w h => List.mem_cons_of_mem _ (inG_X5 w h)) tyX5 tyX5_ok nmX5 F.2.2.2.1 K Z.1 Z.2.1 Z.2.2 23 rfl rfl 10 (by decide) (F.2.2.2.2 _ (List.mem_cons_of_mem _ wd128)) (fun _ h => h) rfl (by decide +kernel) rfl rfl (Nat.le_of_ble_eq_true rfl) hd (fun H1 locs1 hP hD hS => kk H1 locs1 ⟨hP, hD, hS⟩)
theorem prX5_67_23 {v : Int32} (F : CallFix p m c cc nL s args (cw :: Gw) RX5) (K : va_K D vwCl (tyL cy) s) (Z : ZG D (wC ad cy st) A s H locs) (hd : decode cc pc = .ok (.putfield 67, 3)) (kk : ∀ (H1 : Heap) (locs1 : List Loc), ZG D (wC ad cy (uF st 23 v)) A s H1 locs1 → W p l e R s m args below meth c H1 locs1 0 0 Q (F0 m (pc + 3) ls rest)) : W p l e R s m args below meth c H locs 0 0 Q (F0 m pc ls (.int v :: .ref (ad 23) :: rest)) :=
  va_put (D := D) (ci := 5) (v := .int v) (ty := .int) (C := RX5) (T := TX5) (N := 14) F.1 F.2.1 F.2.2.2.2 (fun w h => List.mem_cons_of_mem _ (inG_X5 w h)) tyX5 tyX5_ok nmX5 F.2.2.2.1 K Z.1 Z.2.1 Z.2.2 23 rfl rfl 12 (by decide) (F.2.2.2.2 _ (List.mem_cons_of_mem _ wd129)) (fun _ h => h) rfl (by decide +kernel) rfl rfl (Nat.le_of_ble_eq_true rfl) hd (fun H1 locs1 hP hD hS => kk H1 locs1 ⟨hP, hD, hS⟩)
theorem prX5_51_23 {v : Int32} (F : CallFix p m c cc nL s args (cw :: Gw) RX5) (K : va_K D vwCl (tyL cy) s) (Z : ZG D (wC ad cy st) A s H locs) (hd : decode cc pc = .ok (.putfield 51, 3)) (kk : ∀ (H1 : Heap) (locs1 : List Loc), ZG D (wC ad cy (uF st 24 v)) A s H1 locs1 → W p l e R s m args below meth c H1 locs1 0 0 Q (F0 m (pc + 3) ls rest)) : W p l e R s m args below meth c H locs 0 0 Q (F0 m pc ls (.int v :: .ref (ad 23) :: rest)) :=
  va_put (D := D) (ci := 5) (v := .int v) (ty := .int) (C := RX5) (T := TX5) (N := 14) F.1 F.2.1 F.2.2.2.2 (fun w h => List.mem_cons_of_mem _ (inG_X5 w h)) tyX5 tyX5_ok nmX5 F.2.2.2.1 K Z.1 Z.2.1 Z.2.2 23 rfl rfl 13 (by decide) (F.2.2.2.2 _ (List.mem_cons_of_mem _ wd130)) (fun _ h => h) rfl (by decide +kernel) rfl rfl (Nat.le_of_ble_eq_true rfl) hd (fun H1 locs1 hP hD hS => kk H1 locs1 ⟨hP, hD, hS⟩)
theorem grX5_16_23 (F : CallFix p m c cc nL s args (cw :: Gw) RX5) (K : va_K D vwCl (tyL cy) s) (Z : ZG D (wC ad cy st) A s H locs) (hd : decode cc pc = .ok (.getfield 16, 3)) (kk : W p l e R s m args below meth c H locs 0 0 Q (F0 m (pc + 3) ls (.ref (ad 24) :: rest))) : W p l e R s m args below meth c H locs 0 0 Q (F0 m pc ls (.ref (ad 23) :: rest)) :=
  va_get (D := D) (ci := 5) (C := RX5) (T := TX5) (N := 14) F.1 F.2.1 F.2.2.2.2 (fun w h => List.mem_cons_of_mem _ (inG_X5 w h)) F.2.2.2.1 K Z.1 23 rfl rfl 1 (by decide) (F.2.2.2.2 _ (List.mem_cons_of_mem _ wd131)) (fun _ h => h) rfl hd kk
theorem grX5_30_23 (F : CallFix p m c cc nL s args (cw :: Gw) RX5) (K : va_K D vwCl (tyL cy) s) (Z : ZG D (wC ad cy st) A s H locs) (hd : decode cc pc = .ok (.getfield 30, 3)) (kk : W p l e R s m args below meth c H locs 0 0 Q (F0 m (pc + 3) ls (.ref (ad 35) :: rest))) : W p l e R s m args below meth c H locs 0 0 Q (F0 m pc ls (.ref (ad 23) :: rest)) :=
  va_get (D := D) (ci := 5) (C := RX5) (T := TX5) (N := 14) F.1 F.2.1 F.2.2.2.2 (fun w h => List.mem_cons_of_mem _ (inG_X5 w h)) F.2.2.2.1 K Z.1 23 rfl rfl 3 (by decide) (F.2.2.2.2 _ (List.mem_cons_of_mem _ wd132)) (fun _ h => h) rfl hd kk
theorem grX5_23_23 (F : CallFix p m c cc nL s args (cw :: Gw) RX5) (K : va_K D vwCl (tyL cy) s) (Z : ZG D (wC ad cy st) A s H locs) (hd : decode cc pc = .ok (.getfield 23, 3)) (kk : W p l e R s m args below meth c H locs 0 0 Q (F0 m (pc + 3) ls (.ref (ad 30) :: rest))) : W p l e R s m args below meth c H locs 0 0 Q (F0 m pc ls (.ref (ad 23) :: rest)) :=
  va_get (D := D) (ci := 5) (C := RX5) (T := TX5) (N := 14) F.1 F.2.1 F.2.2.2.2 (fun w h => List.mem_cons_of_mem _ (inG_X5 w h)) F.2.2.2.1 K Z.1 23 rfl rfl 2 (by decide) (F.2.2.2.2 _ (List.mem_cons_of_mem _ wd133)) (fun _ h => h) rfl hd kk
theorem an1 (F : CallFix p m c cc nL s args (cw :: Gw) own) (K : va_K D vwCl (tyL cy) s) (Z : ZG D (wC ad cy st) A s H locs) (hd : decode cc pc = .ok (.arraylength, 1)) (kk : W p l e R s m args below meth c H locs 0 0 Q (F0 m (pc + 1) ls (.int 20 :: rest))) : W p l e R s m args below meth c H locs 0 0 Q (F0 m pc ls (.ref (ad 1) :: rest)) :=
  va_alen F.1 F.2.1 K Z.1 1 1 rfl rfl (show Int32.ofNat 20 = 20 by decide) hd kk
theorem al1 {i : Int32} (F : CallFix p m c cc nL s args (cw :: Gw) own) (K : va_K D vwCl (tyL cy) s) (Z : ZG D (wC ad cy st) A s H locs) (hi : inB i 20 = true) (hd : decode cc pc = .ok (.iaload, 1)) (kk : W p l e R s m args below meth c H locs 0 0 Q (F0 m (pc + 1) ls (.int (st.2.1 0 i.toNatClampNeg) :: rest))) : W p l e R s m args below meth c H locs 0 0 Q (F0 m pc ls (.int i :: .ref (ad 1) :: rest)) :=
  va_iald F.1 F.2.1 K Z.1 1 1 rfl rfl (inB_vp hi) hd kk
theorem prX5_47_23 {v : Int32} (F : CallFix p m c cc nL s args (cw :: Gw) RX5) (K : va_K D vwCl (tyL cy) s) (Z : ZG D (wC ad cy st) A s H locs) (hd : decode cc pc = .ok (.putfield 47, 3)) (kk : ∀ (H1 : Heap) (locs1 : List Loc), ZG D (wC ad cy (uF st 22 v)) A s H1 locs1 → W p l e R s m args below meth c H1 locs1 0 0 Q (F0 m (pc + 3) ls rest)) : W p l e R s m args below meth c H locs 0 0 Q (F0 m pc ls (.int v :: .ref (ad 23) :: rest)) :=
  va_put (D := D) (ci := 5) (v := .int v) (ty := .int) (C := RX5) (T := TX5) (N := 14) F.1 F.2.1 F.2.2.2.2 (fun w h => List.mem_cons_of_mem _ (inG_X5 w h)) tyX5 tyX5_ok nmX5 F.2.2.2.1 K Z.1 Z.2.1 Z.2.2 23 rfl rfl 11 (by decide) (F.2.2.2.2 _ (List.mem_cons_of_mem _ wd134)) (fun _ h => h) rfl (by decide +kernel) rfl rfl (Nat.le_of_ble_eq_true rfl) hd (fun H1 locs1 hP hD hS => kk H1 locs1 ⟨hP, hD, hS⟩)
theorem grX5_47_23 (F : CallFix p m c cc nL s args (cw :: Gw) RX5) (K : va_K D vwCl (tyL cy) s) (Z : ZG D (wC ad cy st) A s H locs) (hd : decode cc pc = .ok (.getfield 47, 3)) (kk : W p l e R s m args below meth c H locs 0 0 Q (F0 m (pc + 3) ls (.int (st.1 22) :: rest))) : W p l e R s m args below meth c H locs 0 0 Q (F0 m pc ls (.ref (ad 23) :: rest)) :=
  va_get (D := D) (ci := 5) (C := RX5) (T := TX5) (N := 14) F.1 F.2.1 F.2.2.2.2 (fun w h => List.mem_cons_of_mem _ (inG_X5 w h)) F.2.2.2.1 K Z.1 23 rfl rfl 11 (by decide) (F.2.2.2.2 _ (List.mem_cons_of_mem _ wd134)) (fun _ h => h) rfl hd kk
theorem grX5_34_23 (F : CallFix p m c cc nL s args (cw :: Gw) RX5) (K : va_K D vwCl (tyL cy) s) (Z : ZG D (wC ad cy st) A s H locs) (hd : decode cc pc = .ok (.getfield 34, 3)) (kk : W p l e R s m args below meth c H locs 0 0 Q (F0 m (pc + 3) ls (.ref (ad 42) :: rest))) : W p l e R s m args below meth c H locs 0 0 Q (F0 m pc ls (.ref (ad 23) :: rest)) :=
  va_get (D := D) (ci := 5) (C := RX5) (T := TX5) (N := 14) F.1 F.2.1 F.2.2.2.2 (fun w h => List.mem_cons_of_mem _ (inG_X5 w h)) F.2.2.2.1 K Z.1 23 rfl rfl 4 (by decide) (F.2.2.2.2 _ (List.mem_cons_of_mem _ wd135)) (fun _ h => h) rfl hd kk
theorem grX5_51_23 (F : CallFix p m c cc nL s args (cw :: Gw) RX5) (K : va_K D vwCl (tyL cy) s) (Z : ZG D (wC ad cy st) A s H locs) (hd : decode cc pc = .ok (.getfield 51, 3)) (kk : W p l e R s m args below meth c H locs 0 0 Q (F0 m (pc + 3) ls (.int (st.1 24) :: rest))) : W p l e R s m args below meth c H locs 0 0 Q (F0 m pc ls (.ref (ad 23) :: rest)) :=
  va_get (D := D) (ci := 5) (C := RX5) (T := TX5) (N := 14) F.1 F.2.1 F.2.2.2.2 (fun w h => List.mem_cons_of_mem _ (inG_X5 w h)) F.2.2.2.1 K Z.1 23 rfl rfl 13 (by decide) (F.2.2.2.2 _ (List.mem_cons_of_mem _ wd130)) (fun _ h => h) rfl hd kk
theorem grX5_54_23 (F : CallFix p m c cc nL s args (cw :: Gw) RX5) (K : va_K D vwCl (tyL cy) s) (Z : ZG D (wC ad cy st) A s H locs) (hd : decode cc pc = .ok (.getfield 54, 3)) (kk : W p l e R s m args below meth c H locs 0 0 Q (F0 m (pc + 3) ls (.ref (ad 4) :: rest))) : W p l e R s m args below meth c H locs 0 0 Q (F0 m pc ls (.ref (ad 23) :: rest)) :=
  va_get (D := D) (ci := 5) (C := RX5) (T := TX5) (N := 14) F.1 F.2.1 F.2.2.2.2 (fun w h => List.mem_cons_of_mem _ (inG_X5 w h)) F.2.2.2.1 K Z.1 23 rfl rfl 0 (by decide) (F.2.2.2.2 _ (List.mem_cons_of_mem _ wd136)) (fun _ h => h) rfl hd kk
theorem grX5_38_23 (F : CallFix p m c cc nL s args (cw :: Gw) RX5) (K : va_K D vwCl (tyL cy) s) (Z : ZG D (wC ad cy st) A s H locs) (hd : decode cc pc = .ok (.getfield 38, 3)) (kk : W p l e R s m args below meth c H locs 0 0 Q (F0 m (pc + 3) ls (.ref (ad 43) :: rest))) : W p l e R s m args below meth c H locs 0 0 Q (F0 m pc ls (.ref (ad 23) :: rest)) :=
  va_get (D := D) (ci := 5) (C := RX5) (T := TX5) (N := 14) F.1 F.2.1 F.2.2.2.2 (fun w h => List.mem_cons_of_mem _ (inG_X5 w h)) F.2.2.2.1 K Z.1 23 rfl rfl 5 (by decide) (F.2.2.2.2 _ (List.mem_cons_of_mem _ wd137)) (fun _ h => h) rfl hd kk
theorem an42 (F : CallFix p m c cc nL s args (cw :: Gw) own) (K : va_K D vwCl (tyL cy) s) (Z : ZG D (wC ad cy st) A s H locs) (hd : decode cc pc = .ok (.arraylength, 1)) (kk : W p l e R s m args below meth c H locs 0 0 Q (F0 m (pc + 1) ls (.int 200 :: rest))) : W p l e R s m args below meth c H locs 0 0 Q (F0 m pc ls (.ref (ad 42) :: rest)) :=
  va_alen F.1 F.2.1 K Z.1 42 1 rfl rfl (show Int32.ofNat 200 = 200 by decide) hd kk
theorem al42 {i : Int32} (F : CallFix p m c cc nL s args (cw :: Gw) own) (K : va_K D vwCl (tyL cy) s) (Z : ZG D (wC ad cy st) A s H locs) (hi : inB i 200 = true) (hd : decode cc pc = .ok (.iaload, 1)) (kk : W p l e R s m args below meth c H locs 0 0 Q (F0 m (pc + 1) ls (.int (st.2.1 31 i.toNatClampNeg) :: rest))) : W p l e R s m args below meth c H locs 0 0 Q (F0 m pc ls (.int i :: .ref (ad 42) :: rest)) :=
  va_iald F.1 F.2.1 K Z.1 42 1 rfl rfl (inB_vp hi) hd kk
end
set_option maxRecDepth 100000 in
set_option maxHeartbeats 4000000 in
theorem c_X5_kept_42 {l : Launch} {D : va_G} {ad : Nat → Nat} {cy : Nat → ClassId} {ee : EE} {n : Nat} {st : StT} {x1 : Int32} {res : (Int32 × StT)} (hf : f_X5_kept_42 n st x1 = some res) : CT l yX5_kept cX5_kept 2 (some .int) 0 0 D cy ee (wC ad cy st) (wC ad cy res.2) [.ref (ad 42), .int x1] (some (.int res.1)) := by
  refine CT.of (by decide +kernel) (Nat.le_of_ble_eq_true rfl) ?_
  intro p e s m args below meth c A F hr hk K E hA Z ls hl
  have hl : lv_has ls 2 [(0, .ref (ad 42)), (1, .int x1)] := hl
  have hx := F.1
  have hb := F.2.1
  unfold f_X5_kept_42 at hf
  refine lv_iload_n hx hb dX5_kept_0 rfl (lv_at hl 1 rfl) ?_
  refine lv_if_lt (tgt := 16) hx hb dX5_kept_1 (by decide) (fun c1 => ?_) (fun c1 => ?_)
  · have hf := if_t c1 hf
    refine lv_iconst (v := -1) hx hb dX5_kept_16 (by decide) ?_
    have hf := Option.some.inj hf
    subst hf
    exact ret_i F hr hk Z dX5_kept_17
  have hf := if_f c1 hf
  refine lv_iload_n hx hb dX5_kept_4 rfl (lv_at hl 1 rfl) ?_
  refine lv_aload_n hx hb dX5_kept_5 rfl (lv_at hl 0 rfl) ?_
  refine an42 F K Z dX5_kept_6 ?_
  refine lv_icmp_ge (tgt := 16) hx hb dX5_kept_7 (by decide) (fun c7 => ?_) (fun c7 => ?_)
  · have hf := if_t c7 hf
    refine lv_iconst (v := -1) hx hb dX5_kept_16 (by decide) ?_
    have hf := Option.some.inj hf
    subst hf
    exact ret_i F hr hk Z dX5_kept_17
  have hf := if_f c7 hf
  refine lv_aload_n hx hb dX5_kept_10 rfl (lv_at hl 0 rfl) ?_
  refine lv_iload_n hx hb dX5_kept_11 rfl (lv_at hl 1 rfl) ?_
  obtain ⟨i12, hf⟩ := if_some hf
  refine al42 F K Z i12 dX5_kept_12 ?_
  refine lv_goto (tgt := 17) hx hb dX5_kept_13 (by decide) ?_
  have hf := Option.some.inj hf
  subst hf
  exact ret_i F hr hk Z dX5_kept_17
def f_X5_keep_42 (n : Nat) (st : StT) (x1 : Int32) (x2 : Int32) : Option StT := if x1 < 0 then (some st) else (if (200 : Int32) ≤ x1 then (some st) else (if inB x1 200 = true then (some (uA st 31 x1 x2)) else none))
section
variable {p : Program} {l : Launch} {e : Env} {R : Room} {s : State} {m : MethodId} {args : Array Value} {below : List Frame} {meth : Method} {c : Code} {H : Heap} {locs : List Loc} {Q : State → Prop}
variable {cc : ByteArray} {nL pc : Nat} {ls : Array Slot} {rest : List Value} {D : va_G} {A : Nat → Prop} {cw : Cond} {ad : Nat → Nat} {cy : Nat → ClassId} {ee : EE} {st : StT} {own : String}
theorem as42 {i : Int32} {v : Int32} (F : CallFix p m c cc nL s args (cw :: Gw) own) (K : va_K D vwCl (tyL cy) s) (Z : ZG D (wC ad cy st) A s H locs) (hi : inB i 200 = true) (hd : decode cc pc = .ok (.iastore, 1)) (kk : ∀ (H1 : Heap) (locs1 : List Loc), ZG D (wC ad cy (uA st 31 i v)) A s H1 locs1 → W p l e R s m args below meth c H1 locs1 0 0 Q (F0 m (pc + 1) ls rest)) : W p l e R s m args below meth c H locs 0 0 Q (F0 m pc ls (.int v :: .int i :: .ref (ad 42) :: rest)) :=
  va_iast F.1 F.2.1 K Z.1 Z.2.1 Z.2.2 42 1 rfl rfl (inB_vp hi) hd (fun H1 locs1 hP hD hS => kk H1 locs1 ⟨hP, hD, hS⟩)
end
set_option maxRecDepth 100000 in
set_option maxHeartbeats 4000000 in
theorem c_X5_keep_42 {l : Launch} {D : va_G} {ad : Nat → Nat} {cy : Nat → ClassId} {ee : EE} {n : Nat} {st : StT} {x1 : Int32} {x2 : Int32} {res : StT} (hf : f_X5_keep_42 n st x1 x2 = some res) : CT l yX5_keep cX5_keep 3 none 0 0 D cy ee (wC ad cy st) (wC ad cy res) [.ref (ad 42), .int x1, .int x2] (none) := by
  refine CT.of (by decide +kernel) (Nat.le_of_ble_eq_true rfl) ?_
  intro p e s m args below meth c A F hr hk K E hA Z ls hl
  have hl : lv_has ls 3 [(0, .ref (ad 42)), (1, .int x1), (2, .int x2)] := hl
  have hx := F.1
  have hb := F.2.1
  unfold f_X5_keep_42 at hf
  refine lv_iload_n hx hb dX5_keep_0 rfl (lv_at hl 1 rfl) ?_
  refine lv_if_lt (tgt := 14) hx hb dX5_keep_1 (by decide) (fun c1 => ?_) (fun c1 => ?_)
  · have hf := if_t c1 hf
    have hf := Option.some.inj hf
    subst hf
    exact ret_v F hr hk Z dX5_keep_14
  have hf := if_f c1 hf
  refine lv_iload_n hx hb dX5_keep_4 rfl (lv_at hl 1 rfl) ?_
  refine lv_aload_n hx hb dX5_keep_5 rfl (lv_at hl 0 rfl) ?_
  refine an42 F K Z dX5_keep_6 ?_
  refine lv_icmp_ge (tgt := 14) hx hb dX5_keep_7 (by decide) (fun c7 => ?_) (fun c7 => ?_)
  · have hf := if_t c7 hf
    have hf := Option.some.inj hf
    subst hf
    exact ret_v F hr hk Z dX5_keep_14
  have hf := if_f c7 hf
  refine lv_aload_n hx hb dX5_keep_10 rfl (lv_at hl 0 rfl) ?_
  refine lv_iload_n hx hb dX5_keep_11 rfl (lv_at hl 1 rfl) ?_
  refine lv_iload_n hx hb dX5_keep_12 rfl (lv_at hl 2 rfl) ?_
  obtain ⟨i13, hf⟩ := if_some hf
  refine as42 F K Z i13 dX5_keep_13 (fun H locs Z => ?_)
  have hf := Option.some.inj hf
  subst hf
  exact ret_v F hr hk Z dX5_keep_14
def f_X5_waitFor (n : Nat) (st : StT) (x1 : Int32) (x2 : Int32) : Option (Int32 × StT) := (f_X5_keep_42 n st x1 x2).bind fun q6 => (some ((2 : Int32), q6))
theorem wd138 : Cond.methodLink RX5 93 yX5_keep ∈ Gw := gT4 (List.mem_of_getElem? (i := 130) rfl) rfl
theorem wd139 : Cond.code yX5_keep prog_7_method_3_code 3 none ∈ Gw := gT4 (List.mem_of_getElem? (i := 132) rfl) rfl
theorem wd140 : Cond.static yX5_keep ∈ Gw := gT4 (List.mem_of_getElem? (i := 131) rfl) rfl
theorem wd141 : Cond.initialized RX5 ∈ Gw := gT1 (List.mem_of_getElem? (i := 8) rfl) rfl
section
variable {p : Program} {l : Launch} {e : Env} {R : Room} {s : State} {m : MethodId} {args : Array Value} {below : List Frame} {meth : Method} {c : Code} {H : Heap} {locs : List Loc} {Q : State → Prop}
variable {cc : ByteArray} {nL pc : Nat} {ls : Array Slot} {rest : List Value} {D : va_G} {A : Nat → Prop} {cw : Cond} {ad : Nat → Nat} {cy : Nat → ClassId} {ee : EE} {st : StT} {own : String}
theorem krX5_93_X5_keep_42 {n : Nat} {a1 : Int32} {a2 : Int32} {q : StT} (F : CallFix p m c cc nL s args (cw :: Gw) RX5) (K : va_K D vwCl (tyL cy) s) (E : EV ee A s s.heap) (hA : ∀ q, s.heap.size ≤ q → A q) (Z : ZG D (wC ad cy st) A s H locs) (hf : f_X5_keep_42 n st a1 a2 = some q) (hR : 1 ≤ R.frames ∧ 22 ≤ R.locals) (hl : ls.size = nL) (hst : (rest.map fun v => v.category).sum ≤ 8) (hd : decode cc pc = .ok (.invokestatic 93, 3)) (kk : ∀ (H1 : Heap) (locs1 : List Loc), ZG D (wC ad cy q) A s H1 locs1 → W p l e R s m args below meth c H1 locs1 0 0 Q (F0 m (pc + 3) ls (rest))) : W p l e R s m args below meth c H locs 0 0 Q (F0 m pc ls (.int a2 :: .int a1 :: .ref (ad 42) :: rest)) :=
  call_S (n := 3) (As := [.ref (ad 42), .int a1, .int a2]) (rv := none) F K E hA Z (c_X5_keep_42 (l := l) (D := D) (ad := ad) (cy := cy) (ee := ee) hf) ⟨wd139, wd138, wd140, wd141⟩ (by decide +kernel) hR rfl hl hst hd kk
end
set_option maxRecDepth 100000 in
set_option maxHeartbeats 4000000 in
theorem c_X5_waitFor {l : Launch} {D : va_G} {ad : Nat → Nat} {cy : Nat → ClassId} {ee : EE} {n : Nat} {st : StT} {x1 : Int32} {x2 : Int32} {res : (Int32 × StT)} (hf : f_X5_waitFor n st x1 x2 = some res) : CT l yX5_waitFor cX5_waitFor 3 (some .int) 1 22 D cy ee (wC ad cy st) (wC ad cy res.2) [.ref (ad 23), .int x1, .int x2] (some (.int res.1)) := by
  refine CT.of (by decide +kernel) (Nat.le_of_ble_eq_true rfl) ?_
  intro p e s m args below meth c A F hr hk K E hA Z ls hl
  have hl : lv_has ls 3 [(0, .ref (ad 23)), (1, .int x1), (2, .int x2)] := hl
  have hx := F.1
  have hb := F.2.1
  unfold f_X5_waitFor at hf
  refine lv_aload_n hx hb dX5_waitFor_0 rfl (lv_at hl 0 rfl) ?_
  refine grX5_34_23 F K Z dX5_waitFor_1 ?_
  refine lv_iload_n hx hb dX5_waitFor_4 rfl (lv_at hl 1 rfl) ?_
  refine lv_iload_n hx hb dX5_waitFor_5 rfl (lv_at hl 2 rfl) ?_
  obtain ⟨q6, h6, hf⟩ := bind_some hf
  refine krX5_93_X5_keep_42 F K E hA Z h6 ⟨Nat.le_of_ble_eq_true rfl, Nat.le_of_ble_eq_true rfl⟩ hl.1 (Nat.le_of_ble_eq_true rfl) dX5_waitFor_6 (fun H locs Z => ?_)
  refine lv_iconst (v := 2) hx hb dX5_waitFor_9 (by decide) ?_
  have hf := Option.some.inj hf
  subst hf
  exact ret_i F hr hk Z dX5_waitFor_10
def f_X5_variablesIn_4 (n : Nat) : Nat → StT → Int32 → Int32 → Int32 → Option (Int32 × StT)
  | 0, _, _, _, _ => none
  | k + 1, st, x1, x2, x3 => (f_X6_sizeOf n st x1).bind fun q10 => (if q10.1 ≤ x3 then (some (x2, q10.2)) else ((f_X6_formulaAt n q10.2 x1 x3).bind fun q22 => ((f_X1_kindOf_F0 n q22.2 q22.1).bind fun q33 => (if q33.1 = (2 : Int32) then ((f_X1_firstOf_F0 n q33.2 q22.1).bind fun q48 => (f_X5_variablesIn_4 n k q48.2 x1 (x2 ||| ((1 : Int32) <<< (q48.1 &&& 31))) (x3 + (1 : Int32)))) else (f_X5_variablesIn_4 n k q33.2 x1 x2 (x3 + (1 : Int32)))))))
def f_X5_variablesIn (n : Nat) (st : StT) (x1 : Int32) : Option (Int32 × StT) := f_X5_variablesIn_4 n n st x1 (0 : Int32) (0 : Int32)
theorem wd142 : Cond.methodLink RX5 134 yX1_firstOf ∈ Gw := gT4 (List.mem_of_getElem? (i := 138) rfl) rfl
theorem wd143 : Cond.code yX1_firstOf prog_3_method_7_code 2 (some .int) ∈ Gw := gT3 (List.mem_of_getElem? (i := 185) rfl) rfl
theorem wd144 : Cond.instanceMethod yX1_firstOf ∈ Gw := gT3 (List.mem_of_getElem? (i := 183) rfl) rfl
theorem wd145 : Cond.selects RX1 yX1_firstOf yX1_firstOf ∈ Gw := gT3 (List.mem_of_getElem? (i := 184) rfl) rfl
theorem wd146 : Cond.methodLink RX5 126 yX1_kindOf ∈ Gw := gT4 (List.mem_of_getElem? (i := 125) rfl) rfl
theorem wd147 : Cond.code yX1_kindOf prog_3_method_6_code 2 (some .int) ∈ Gw := gT3 (List.mem_of_getElem? (i := 180) rfl) rfl
theorem wd148 : Cond.instanceMethod yX1_kindOf ∈ Gw := gT3 (List.mem_of_getElem? (i := 178) rfl) rfl
theorem wd149 : Cond.selects RX1 yX1_kindOf yX1_kindOf ∈ Gw := gT3 (List.mem_of_getElem? (i := 179) rfl) rfl
theorem wd150 : Cond.methodLink RX5 164 yX6_formulaAt ∈ Gw := gT4 (List.mem_of_getElem? (i := 162) rfl) rfl
theorem wd151 : Cond.code yX6_formulaAt prog_8_method_6_code 3 (some .int) ∈ Gw := gT4 (List.mem_of_getElem? (i := 165) rfl) rfl
theorem wd152 : Cond.instanceMethod yX6_formulaAt ∈ Gw := gT4 (List.mem_of_getElem? (i := 163) rfl) rfl
theorem wd153 : Cond.selects RX6 yX6_formulaAt yX6_formulaAt ∈ Gw := gT4 (List.mem_of_getElem? (i := 164) rfl) rfl
theorem wd154 : Cond.methodLink RX5 161 yX6_sizeOf ∈ Gw := gT4 (List.mem_of_getElem? (i := 158) rfl) rfl
theorem wd155 : Cond.code yX6_sizeOf prog_8_method_4_code 2 (some .int) ∈ Gw := gT4 (List.mem_of_getElem? (i := 161) rfl) rfl
theorem wd156 : Cond.instanceMethod yX6_sizeOf ∈ Gw := gT4 (List.mem_of_getElem? (i := 159) rfl) rfl
theorem wd157 : Cond.selects RX6 yX6_sizeOf yX6_sizeOf ∈ Gw := gT4 (List.mem_of_getElem? (i := 160) rfl) rfl
section
variable {p : Program} {l : Launch} {e : Env} {R : Room} {s : State} {m : MethodId} {args : Array Value} {below : List Frame} {meth : Method} {c : Code} {H : Heap} {locs : List Loc} {Q : State → Prop}
variable {cc : ByteArray} {nL pc : Nat} {ls : Array Slot} {rest : List Value} {D : va_G} {A : Nat → Prop} {cw : Cond} {ad : Nat → Nat} {cy : Nat → ClassId} {ee : EE} {st : StT} {own : String}
theorem krX5_134_X1_firstOf_F0 {n : Nat} {a0 : Int32} {q : (Int32 × StT)} (F : CallFix p m c cc nL s args (cw :: Gw) RX5) (K : va_K D vwCl (tyL cy) s) (E : EV ee A s s.heap) (hA : ∀ q, s.heap.size ≤ q → A q) (Z : ZG D (wC ad cy st) A s H locs) (hf : f_X1_firstOf_F0 n st a0 = some q) (hR : 2 ≤ R.frames ∧ 42 ≤ R.locals) (hl : ls.size = nL) (hst : (rest.map fun v => v.category).sum ≤ 8) (hd : decode cc pc = .ok (.invokevirtual 134, 3)) (kk : ∀ (H1 : Heap) (locs1 : List Loc), ZG D (wC ad cy q.2) A s H1 locs1 → W p l e R s m args below meth c H1 locs1 0 0 Q (F0 m (pc + 3) ls (.int q.1 :: rest))) : W p l e R s m args below meth c H locs 0 0 Q (F0 m pc ls (.int a0 :: .ref (ad 4) :: rest)) :=
  call_V (q := (RX1, TX1, 9)) (n := 1) (As := [.int a0]) (rv := some (.int q.1)) 4 1 F K E hA Z (c_X1_firstOf_F0 (l := l) (D := D) (ad := ad) (cy := cy) (ee := ee) hf) ⟨wd143, wd142, wd144, wd145, wd17⟩ (by decide +kernel) rfl rfl hR rfl hl hst hd kk
theorem krX5_126_X1_kindOf_F0 {n : Nat} {a0 : Int32} {q : (Int32 × StT)} (F : CallFix p m c cc nL s args (cw :: Gw) RX5) (K : va_K D vwCl (tyL cy) s) (E : EV ee A s s.heap) (hA : ∀ q, s.heap.size ≤ q → A q) (Z : ZG D (wC ad cy st) A s H locs) (hf : f_X1_kindOf_F0 n st a0 = some q) (hR : 2 ≤ R.frames ∧ 42 ≤ R.locals) (hl : ls.size = nL) (hst : (rest.map fun v => v.category).sum ≤ 8) (hd : decode cc pc = .ok (.invokevirtual 126, 3)) (kk : ∀ (H1 : Heap) (locs1 : List Loc), ZG D (wC ad cy q.2) A s H1 locs1 → W p l e R s m args below meth c H1 locs1 0 0 Q (F0 m (pc + 3) ls (.int q.1 :: rest))) : W p l e R s m args below meth c H locs 0 0 Q (F0 m pc ls (.int a0 :: .ref (ad 4) :: rest)) :=
  call_V (q := (RX1, TX1, 9)) (n := 1) (As := [.int a0]) (rv := some (.int q.1)) 4 1 F K E hA Z (c_X1_kindOf_F0 (l := l) (D := D) (ad := ad) (cy := cy) (ee := ee) hf) ⟨wd147, wd146, wd148, wd149, wd17⟩ (by decide +kernel) rfl rfl hR rfl hl hst hd kk
theorem krX5_164_X6_formulaAt {n : Nat} {a0 : Int32} {a1 : Int32} {q : (Int32 × StT)} (F : CallFix p m c cc nL s args (cw :: Gw) RX5) (K : va_K D vwCl (tyL cy) s) (E : EV ee A s s.heap) (hA : ∀ q, s.heap.size ≤ q → A q) (Z : ZG D (wC ad cy st) A s H locs) (hf : f_X6_formulaAt n st a0 a1 = some q) (hR : 2 ≤ R.frames ∧ 44 ≤ R.locals) (hl : ls.size = nL) (hst : (rest.map fun v => v.category).sum ≤ 8) (hd : decode cc pc = .ok (.invokevirtual 164, 3)) (kk : ∀ (H1 : Heap) (locs1 : List Loc), ZG D (wC ad cy q.2) A s H1 locs1 → W p l e R s m args below meth c H1 locs1 0 0 Q (F0 m (pc + 3) ls (.int q.1 :: rest))) : W p l e R s m args below meth c H locs 0 0 Q (F0 m pc ls (.int a1 :: .int a0 :: .ref (ad 30) :: rest)) :=
  call_V (q := (RX6, TX6, 5)) (n := 2) (As := [.int a0, .int a1]) (rv := some (.int q.1)) 30 6 F K E hA Z (c_X6_formulaAt (l := l) (D := D) (ad := ad) (cy := cy) (ee := ee) hf) ⟨wd151, wd150, wd152, wd153, wd78⟩ (by decide +kernel) rfl rfl hR rfl hl hst hd kk
theorem krX5_161_X6_sizeOf {n : Nat} {a0 : Int32} {q : (Int32 × StT)} (F : CallFix p m c cc nL s args (cw :: Gw) RX5) (K : va_K D vwCl (tyL cy) s) (E : EV ee A s s.heap) (hA : ∀ q, s.heap.size ≤ q → A q) (Z : ZG D (wC ad cy st) A s H locs) (hf : f_X6_sizeOf n st a0 = some q) (hR : 2 ≤ R.frames ∧ 41 ≤ R.locals) (hl : ls.size = nL) (hst : (rest.map fun v => v.category).sum ≤ 8) (hd : decode cc pc = .ok (.invokevirtual 161, 3)) (kk : ∀ (H1 : Heap) (locs1 : List Loc), ZG D (wC ad cy q.2) A s H1 locs1 → W p l e R s m args below meth c H1 locs1 0 0 Q (F0 m (pc + 3) ls (.int q.1 :: rest))) : W p l e R s m args below meth c H locs 0 0 Q (F0 m pc ls (.int a0 :: .ref (ad 30) :: rest)) :=
  call_V (q := (RX6, TX6, 5)) (n := 1) (As := [.int a0]) (rv := some (.int q.1)) 30 6 F K E hA Z (c_X6_sizeOf (l := l) (D := D) (ad := ad) (cy := cy) (ee := ee) hf) ⟨wd155, wd154, wd156, wd157, wd78⟩ (by decide +kernel) rfl rfl hR rfl hl hst hd kk
end
set_option maxRecDepth 100000 in
set_option maxHeartbeats 4000000 in
theorem b_X5_variablesIn_4 {p : Program} {l : Launch} {e : Env} {s : State} {m : MethodId} {args : Array Value} {below : List Frame} {meth : Method} {c : Code} {D : va_G} {A : Nat → Prop} {ad : Nat → Nat} {cy : Nat → ClassId} {ee : EE} {n : Nat} {res : (Int32 × StT)} (F : CallFix p m c cX5_variablesIn 5 s args (Cond.code yX5_variablesIn cX5_variablesIn 5 (some .int) :: Gw) yX5_variablesIn.cls) (hr : meth.sig.returnType = (some .int)) (hk : meth.locks = false) (K : va_K D vwCl (tyL cy) s) (E : EV ee A s s.heap) (hA : ∀ q, s.heap.size ≤ q → A q) : ∀ (k : Nat) (st : StT) (x1 : Int32) (x2 : Int32) (x3 : Int32), f_X5_variablesIn_4 n k st x1 x2 x3 = some res → ∀ (H : Heap) (locs : List Loc) (ls : Array Slot), ZG D (wC ad cy st) A s H locs → lv_has ls 5 [(0, .ref (ad 23)), (1, .int x1), (2, .int x2), (3, .int x3)] → W p l e { frames := 2, cells := 0, slots := 0, locals := 44 } s m args below meth c H locs 0 0 (MQ below (QC D (some (.int res.1)) (wC ad cy res.2) A) args s 0 0 A) (F0 m 4 ls []) := by
  have hx := F.1
  have hb := F.2.1
  intro k
  induction k with
  | zero =>
    intro st x1 x2 x3 hf
    exact absurd hf (by simp [f_X5_variablesIn_4])
  | succ k ih =>
    intro st x1 x2 x3 hf H locs ls Z hl
    rw [f_X5_variablesIn_4] at hf
    refine lv_iload_n hx hb dX5_variablesIn_4 rfl (lv_at hl 3 rfl) ?_
    refine lv_aload_n hx hb dX5_variablesIn_5 rfl (lv_at hl 0 rfl) ?_
    refine grX5_23_23 F K Z dX5_variablesIn_6 ?_
    refine lv_iload_n hx hb dX5_variablesIn_9 rfl (lv_at hl 1 rfl) ?_
    obtain ⟨q10, h10, hf⟩ := bind_some hf
    refine krX5_161_X6_sizeOf F K E hA Z h10 ⟨Nat.le_of_ble_eq_true rfl, Nat.le_of_ble_eq_true rfl⟩ hl.1 (Nat.le_of_ble_eq_true rfl) dX5_variablesIn_10 (fun H locs Z => ?_)
    refine lv_icmp_ge (tgt := 60) hx hb dX5_variablesIn_13 (by decide) (fun c13 => ?_) (fun c13 => ?_)
    · have hf := if_t c13 hf
      refine lv_iload_n hx hb dX5_variablesIn_60 rfl (lv_at hl 2 rfl) ?_
      have hf := Option.some.inj hf
      subst hf
      exact ret_i F hr hk Z dX5_variablesIn_61
    have hf := if_f c13 hf
    refine lv_aload_n hx hb dX5_variablesIn_16 rfl (lv_at hl 0 rfl) ?_
    refine grX5_23_23 F K Z dX5_variablesIn_17 ?_
    refine lv_iload_n hx hb dX5_variablesIn_20 rfl (lv_at hl 1 rfl) ?_
    refine lv_iload_n hx hb dX5_variablesIn_21 rfl (lv_at hl 3 rfl) ?_
    obtain ⟨q22, h22, hf⟩ := bind_some hf
    refine krX5_164_X6_formulaAt F K E hA Z h22 ⟨Nat.le_of_ble_eq_true rfl, Nat.le_of_ble_eq_true rfl⟩ hl.1 (Nat.le_of_ble_eq_true rfl) dX5_variablesIn_22 (fun H locs Z => ?_)
    refine lv_istore (lv' := [(4, .int q22.1), (0, .ref (ad 23)), (1, .int x1), (2, .int x2), (3, .int x3)]) hx hb dX5_variablesIn_25 hl (by decide) rfl (fun ls hl => ?_)
    refine lv_aload_n hx hb dX5_variablesIn_27 rfl (lv_at hl 1 rfl) ?_
    refine grX5_54_23 F K Z dX5_variablesIn_28 ?_
    refine lv_iload hx hb dX5_variablesIn_31 (lv_at hl 0 rfl) ?_
    obtain ⟨q33, h33, hf⟩ := bind_some hf
    refine krX5_126_X1_kindOf_F0 F K E hA Z h33 ⟨Nat.le_of_ble_eq_true rfl, Nat.le_of_ble_eq_true rfl⟩ hl.1 (Nat.le_of_ble_eq_true rfl) dX5_variablesIn_33 (fun H locs Z => ?_)
    refine lv_iconst (v := 2) hx hb dX5_variablesIn_36 (by decide) ?_
    refine lv_icmp_ne (tgt := 54) hx hb dX5_variablesIn_37 (by decide) (fun c37 => ?_) (fun c37 => ?_)
    · have hf := if_f c37 hf
      refine lv_iinc (v := (x3 + (1 : Int32))) (lv' := [(3, .int (x3 + (1 : Int32))), (4, .int q22.1), (0, .ref (ad 23)), (1, .int x1), (2, .int x2)]) hx hb dX5_variablesIn_54 hl (k := 4) rfl (congrArg (fun z => x3 + z) (by decide)) (by decide) rfl (fun ls hl => ?_)
      refine lv_goto (tgt := 4) hx hb dX5_variablesIn_57 (by decide) ?_
      exact ih _ _ _ _ hf _ _ _ Z (lv_sub hl [2, 3, 4, 0] rfl)
    have hf := if_t c37 hf
    refine lv_iload_n hx hb dX5_variablesIn_40 rfl (lv_at hl 3 rfl) ?_
    refine lv_iconst (v := 1) hx hb dX5_variablesIn_41 (by decide) ?_
    refine lv_aload_n hx hb dX5_variablesIn_42 rfl (lv_at hl 1 rfl) ?_
    refine grX5_54_23 F K Z dX5_variablesIn_43 ?_
    refine lv_iload hx hb dX5_variablesIn_46 (lv_at hl 0 rfl) ?_
    obtain ⟨q48, h48, hf⟩ := bind_some hf
    refine krX5_134_X1_firstOf_F0 F K E hA Z h48 ⟨Nat.le_of_ble_eq_true rfl, Nat.le_of_ble_eq_true rfl⟩ hl.1 (Nat.le_of_ble_eq_true rfl) dX5_variablesIn_48 (fun H locs Z => ?_)
    refine lv_ishl hx hb dX5_variablesIn_51 ?_
    refine lv_ior hx hb dX5_variablesIn_52 ?_
    refine lv_istore_n (lv' := [(2, .int (x2 ||| ((1 : Int32) <<< (q48.1 &&& 31)))), (4, .int q22.1), (0, .ref (ad 23)), (1, .int x1), (3, .int x3)]) hx hb dX5_variablesIn_53 rfl hl (by decide) rfl (fun ls hl => ?_)
    refine lv_iinc (v := (x3 + (1 : Int32))) (lv' := [(3, .int (x3 + (1 : Int32))), (2, .int (x2 ||| ((1 : Int32) <<< (q48.1 &&& 31)))), (4, .int q22.1), (0, .ref (ad 23)), (1, .int x1)]) hx hb dX5_variablesIn_54 hl (k := 4) rfl (congrArg (fun z => x3 + z) (by decide)) (by decide) rfl (fun ls hl => ?_)
    refine lv_goto (tgt := 4) hx hb dX5_variablesIn_57 (by decide) ?_
    exact ih _ _ _ _ hf _ _ _ Z (lv_sub hl [3, 4, 1, 0] rfl)
set_option maxRecDepth 100000 in
set_option maxHeartbeats 4000000 in
theorem c_X5_variablesIn {l : Launch} {D : va_G} {ad : Nat → Nat} {cy : Nat → ClassId} {ee : EE} {n : Nat} {st : StT} {x1 : Int32} {res : (Int32 × StT)} (hf : f_X5_variablesIn n st x1 = some res) : CT l yX5_variablesIn cX5_variablesIn 5 (some .int) 2 44 D cy ee (wC ad cy st) (wC ad cy res.2) [.ref (ad 23), .int x1] (some (.int res.1)) := by
  refine CT.of (by decide +kernel) (Nat.le_of_ble_eq_true rfl) ?_
  intro p e s m args below meth c A F hr hk K E hA Z ls hl
  have hl : lv_has ls 5 [(0, .ref (ad 23)), (1, .int x1)] := hl
  have hx := F.1
  have hb := F.2.1
  unfold f_X5_variablesIn at hf
  refine lv_iconst (v := 0) hx hb dX5_variablesIn_0 (by decide) ?_
  refine lv_istore_n (lv' := [(2, .int (0 : Int32)), (0, .ref (ad 23)), (1, .int x1)]) hx hb dX5_variablesIn_1 rfl hl (by decide) rfl (fun ls hl => ?_)
  refine lv_iconst (v := 0) hx hb dX5_variablesIn_2 (by decide) ?_
  refine lv_istore_n (lv' := [(3, .int (0 : Int32)), (2, .int (0 : Int32)), (0, .ref (ad 23)), (1, .int x1)]) hx hb dX5_variablesIn_3 rfl hl (by decide) rfl (fun ls hl => ?_)
  exact b_X5_variablesIn_4 F hr hk K E hA _ _ _ _ _ hf _ _ _ Z (lv_sub hl [2, 3, 1, 0] rfl)
def f_X5_keep_43 (n : Nat) (st : StT) (x1 : Int32) (x2 : Int32) : Option StT := if x1 < 0 then (some st) else (if (200 : Int32) ≤ x1 then (some st) else (if inB x1 200 = true then (some (uA st 32 x1 x2)) else none))
theorem wd158 : Cond.fieldLink RX5 44 "WorldProver$Search" "bounds" "[I" ∈ Gw := gT2 (List.mem_of_getElem? (i := 33) rfl) rfl
section
variable {p : Program} {l : Launch} {e : Env} {R : Room} {s : State} {m : MethodId} {args : Array Value} {below : List Frame} {meth : Method} {c : Code} {H : Heap} {locs : List Loc} {Q : State → Prop}
variable {cc : ByteArray} {nL pc : Nat} {ls : Array Slot} {rest : List Value} {D : va_G} {A : Nat → Prop} {cw : Cond} {ad : Nat → Nat} {cy : Nat → ClassId} {ee : EE} {st : StT} {own : String}
theorem grX5_44_23 (F : CallFix p m c cc nL s args (cw :: Gw) RX5) (K : va_K D vwCl (tyL cy) s) (Z : ZG D (wC ad cy st) A s H locs) (hd : decode cc pc = .ok (.getfield 44, 3)) (kk : W p l e R s m args below meth c H locs 0 0 Q (F0 m (pc + 3) ls (.ref (ad 45) :: rest))) : W p l e R s m args below meth c H locs 0 0 Q (F0 m pc ls (.ref (ad 23) :: rest)) :=
  va_get (D := D) (ci := 5) (C := RX5) (T := TX5) (N := 14) F.1 F.2.1 F.2.2.2.2 (fun w h => List.mem_cons_of_mem _ (inG_X5 w h)) F.2.2.2.1 K Z.1 23 rfl rfl 7 (by decide) (F.2.2.2.2 _ (List.mem_cons_of_mem _ wd158)) (fun _ h => h) rfl hd kk
theorem an43 (F : CallFix p m c cc nL s args (cw :: Gw) own) (K : va_K D vwCl (tyL cy) s) (Z : ZG D (wC ad cy st) A s H locs) (hd : decode cc pc = .ok (.arraylength, 1)) (kk : W p l e R s m args below meth c H locs 0 0 Q (F0 m (pc + 1) ls (.int 200 :: rest))) : W p l e R s m args below meth c H locs 0 0 Q (F0 m pc ls (.ref (ad 43) :: rest)) :=
  va_alen F.1 F.2.1 K Z.1 43 1 rfl rfl (show Int32.ofNat 200 = 200 by decide) hd kk
theorem as43 {i : Int32} {v : Int32} (F : CallFix p m c cc nL s args (cw :: Gw) own) (K : va_K D vwCl (tyL cy) s) (Z : ZG D (wC ad cy st) A s H locs) (hi : inB i 200 = true) (hd : decode cc pc = .ok (.iastore, 1)) (kk : ∀ (H1 : Heap) (locs1 : List Loc), ZG D (wC ad cy (uA st 32 i v)) A s H1 locs1 → W p l e R s m args below meth c H1 locs1 0 0 Q (F0 m (pc + 1) ls rest)) : W p l e R s m args below meth c H locs 0 0 Q (F0 m pc ls (.int v :: .int i :: .ref (ad 43) :: rest)) :=
  va_iast F.1 F.2.1 K Z.1 Z.2.1 Z.2.2 43 1 rfl rfl (inB_vp hi) hd (fun H1 locs1 hP hD hS => kk H1 locs1 ⟨hP, hD, hS⟩)
end
set_option maxRecDepth 100000 in
set_option maxHeartbeats 4000000 in
theorem c_X5_keep_43 {l : Launch} {D : va_G} {ad : Nat → Nat} {cy : Nat → ClassId} {ee : EE} {n : Nat} {st : StT} {x1 : Int32} {x2 : Int32} {res : StT} (hf : f_X5_keep_43 n st x1 x2 = some res) : CT l yX5_keep cX5_keep 3 none 0 0 D cy ee (wC ad cy st) (wC ad cy res) [.ref (ad 43), .int x1, .int x2] (none) := by
  refine CT.of (by decide +kernel) (Nat.le_of_ble_eq_true rfl) ?_
  intro p e s m args below meth c A F hr hk K E hA Z ls hl
  have hl : lv_has ls 3 [(0, .ref (ad 43)), (1, .int x1), (2, .int x2)] := hl
  have hx := F.1
  have hb := F.2.1
  unfold f_X5_keep_43 at hf
  refine lv_iload_n hx hb dX5_keep_0 rfl (lv_at hl 1 rfl) ?_
  refine lv_if_lt (tgt := 14) hx hb dX5_keep_1 (by decide) (fun c1 => ?_) (fun c1 => ?_)
  · have hf := if_t c1 hf
    have hf := Option.some.inj hf
    subst hf
    exact ret_v F hr hk Z dX5_keep_14
  have hf := if_f c1 hf
  refine lv_iload_n hx hb dX5_keep_4 rfl (lv_at hl 1 rfl) ?_
  refine lv_aload_n hx hb dX5_keep_5 rfl (lv_at hl 0 rfl) ?_
  refine an43 F K Z dX5_keep_6 ?_
  refine lv_icmp_ge (tgt := 14) hx hb dX5_keep_7 (by decide) (fun c7 => ?_) (fun c7 => ?_)
  · have hf := if_t c7 hf
    have hf := Option.some.inj hf
    subst hf
    exact ret_v F hr hk Z dX5_keep_14
  have hf := if_f c7 hf
  refine lv_aload_n hx hb dX5_keep_10 rfl (lv_at hl 0 rfl) ?_
  refine lv_iload_n hx hb dX5_keep_11 rfl (lv_at hl 1 rfl) ?_
  refine lv_iload_n hx hb dX5_keep_12 rfl (lv_at hl 2 rfl) ?_
  obtain ⟨i13, hf⟩ := if_some hf
  refine as43 F K Z i13 dX5_keep_13 (fun H locs Z => ?_)
  have hf := Option.some.inj hf
  subst hf
  exact ret_v F hr hk Z dX5_keep_14
def f_X5_keep_45 (n : Nat) (st : StT) (x1 : Int32) (x2 : Int32) : Option StT := if x1 < 0 then (some st) else (if (200 : Int32) ≤ x1 then (some st) else (if inB x1 200 = true then (some (uA st 34 x1 x2)) else none))
section
variable {p : Program} {l : Launch} {e : Env} {R : Room} {s : State} {m : MethodId} {args : Array Value} {below : List Frame} {meth : Method} {c : Code} {H : Heap} {locs : List Loc} {Q : State → Prop}
variable {cc : ByteArray} {nL pc : Nat} {ls : Array Slot} {rest : List Value} {D : va_G} {A : Nat → Prop} {cw : Cond} {ad : Nat → Nat} {cy : Nat → ClassId} {ee : EE} {st : StT} {own : String}
theorem an45 (F : CallFix p m c cc nL s args (cw :: Gw) own) (K : va_K D vwCl (tyL cy) s) (Z : ZG D (wC ad cy st) A s H locs) (hd : decode cc pc = .ok (.arraylength, 1)) (kk : W p l e R s m args below meth c H locs 0 0 Q (F0 m (pc + 1) ls (.int 200 :: rest))) : W p l e R s m args below meth c H locs 0 0 Q (F0 m pc ls (.ref (ad 45) :: rest)) :=
  va_alen F.1 F.2.1 K Z.1 45 1 rfl rfl (show Int32.ofNat 200 = 200 by decide) hd kk
theorem as45 {i : Int32} {v : Int32} (F : CallFix p m c cc nL s args (cw :: Gw) own) (K : va_K D vwCl (tyL cy) s) (Z : ZG D (wC ad cy st) A s H locs) (hi : inB i 200 = true) (hd : decode cc pc = .ok (.iastore, 1)) (kk : ∀ (H1 : Heap) (locs1 : List Loc), ZG D (wC ad cy (uA st 34 i v)) A s H1 locs1 → W p l e R s m args below meth c H1 locs1 0 0 Q (F0 m (pc + 1) ls rest)) : W p l e R s m args below meth c H locs 0 0 Q (F0 m pc ls (.int v :: .int i :: .ref (ad 45) :: rest)) :=
  va_iast F.1 F.2.1 K Z.1 Z.2.1 Z.2.2 45 1 rfl rfl (inB_vp hi) hd (fun H1 locs1 hP hD hS => kk H1 locs1 ⟨hP, hD, hS⟩)
end
set_option maxRecDepth 100000 in
set_option maxHeartbeats 4000000 in
theorem c_X5_keep_45 {l : Launch} {D : va_G} {ad : Nat → Nat} {cy : Nat → ClassId} {ee : EE} {n : Nat} {st : StT} {x1 : Int32} {x2 : Int32} {res : StT} (hf : f_X5_keep_45 n st x1 x2 = some res) : CT l yX5_keep cX5_keep 3 none 0 0 D cy ee (wC ad cy st) (wC ad cy res) [.ref (ad 45), .int x1, .int x2] (none) := by
  refine CT.of (by decide +kernel) (Nat.le_of_ble_eq_true rfl) ?_
  intro p e s m args below meth c A F hr hk K E hA Z ls hl
  have hl : lv_has ls 3 [(0, .ref (ad 45)), (1, .int x1), (2, .int x2)] := hl
  have hx := F.1
  have hb := F.2.1
  unfold f_X5_keep_45 at hf
  refine lv_iload_n hx hb dX5_keep_0 rfl (lv_at hl 1 rfl) ?_
  refine lv_if_lt (tgt := 14) hx hb dX5_keep_1 (by decide) (fun c1 => ?_) (fun c1 => ?_)
  · have hf := if_t c1 hf
    have hf := Option.some.inj hf
    subst hf
    exact ret_v F hr hk Z dX5_keep_14
  have hf := if_f c1 hf
  refine lv_iload_n hx hb dX5_keep_4 rfl (lv_at hl 1 rfl) ?_
  refine lv_aload_n hx hb dX5_keep_5 rfl (lv_at hl 0 rfl) ?_
  refine an45 F K Z dX5_keep_6 ?_
  refine lv_icmp_ge (tgt := 14) hx hb dX5_keep_7 (by decide) (fun c7 => ?_) (fun c7 => ?_)
  · have hf := if_t c7 hf
    have hf := Option.some.inj hf
    subst hf
    exact ret_v F hr hk Z dX5_keep_14
  have hf := if_f c7 hf
  refine lv_aload_n hx hb dX5_keep_10 rfl (lv_at hl 0 rfl) ?_
  refine lv_iload_n hx hb dX5_keep_11 rfl (lv_at hl 1 rfl) ?_
  refine lv_iload_n hx hb dX5_keep_12 rfl (lv_at hl 2 rfl) ?_
  obtain ⟨i13, hf⟩ := if_some hf
  refine as45 F K Z i13 dX5_keep_13 (fun H locs Z => ?_)
  have hf := Option.some.inj hf
  subst hf
  exact ret_v F hr hk Z dX5_keep_14
def f_X5_waitIf (n : Nat) (st : StT) (x1 : Int32) (x2 : Int32) (x3 : Int32) : Option (Int32 × StT) := if x1 = 0 then (some ((-7 : Int32), st)) else ((f_X5_waitFor n st x2 x3).bind fun q7 => (some (q7.1, q7.2)))
theorem wd159 : Cond.methodLink RX5 97 yX5_waitFor ∈ Gw := gT4 (List.mem_of_getElem? (i := 146) rfl) rfl
theorem wd160 : Cond.code yX5_waitFor prog_7_method_6_code 3 (some .int) ∈ Gw := gT4 (List.mem_of_getElem? (i := 149) rfl) rfl
theorem wd161 : Cond.instanceMethod yX5_waitFor ∈ Gw := gT4 (List.mem_of_getElem? (i := 148) rfl) rfl
theorem wd162 : Cond.selects RX5 yX5_waitFor yX5_waitFor ∈ Gw := gP2 (q := (yX5_waitFor, 14)) (List.mem_of_getElem? (i := 15) rfl)
section
variable {p : Program} {l : Launch} {e : Env} {R : Room} {s : State} {m : MethodId} {args : Array Value} {below : List Frame} {meth : Method} {c : Code} {H : Heap} {locs : List Loc} {Q : State → Prop}
variable {cc : ByteArray} {nL pc : Nat} {ls : Array Slot} {rest : List Value} {D : va_G} {A : Nat → Prop} {cw : Cond} {ad : Nat → Nat} {cy : Nat → ClassId} {ee : EE} {st : StT} {own : String}
theorem krX5_97_X5_waitFor {n : Nat} {a0 : Int32} {a1 : Int32} {q : (Int32 × StT)} (F : CallFix p m c cc nL s args (cw :: Gw) RX5) (K : va_K D vwCl (tyL cy) s) (E : EV ee A s s.heap) (hA : ∀ q, s.heap.size ≤ q → A q) (Z : ZG D (wC ad cy st) A s H locs) (hf : f_X5_waitFor n st a0 a1 = some q) (hR : 2 ≤ R.frames ∧ 44 ≤ R.locals) (hl : ls.size = nL) (hst : (rest.map fun v => v.category).sum ≤ 8) (hd : decode cc pc = .ok (.invokevirtual 97, 3)) (kk : ∀ (H1 : Heap) (locs1 : List Loc), ZG D (wC ad cy q.2) A s H1 locs1 → W p l e R s m args below meth c H1 locs1 0 0 Q (F0 m (pc + 3) ls (.int q.1 :: rest))) : W p l e R s m args below meth c H locs 0 0 Q (F0 m pc ls (.int a1 :: .int a0 :: .ref (ad 23) :: rest)) :=
  call_V (q := (RX5, TX5, 14)) (n := 2) (As := [.int a0, .int a1]) (rv := some (.int q.1)) 23 5 F K E hA Z (c_X5_waitFor (l := l) (D := D) (ad := ad) (cy := cy) (ee := ee) hf) ⟨wd160, wd159, wd161, wd162, wd141⟩ (by decide +kernel) rfl rfl hR rfl hl hst hd kk
end
set_option maxRecDepth 100000 in
set_option maxHeartbeats 4000000 in
theorem c_X5_waitIf {l : Launch} {D : va_G} {ad : Nat → Nat} {cy : Nat → ClassId} {ee : EE} {n : Nat} {st : StT} {x1 : Int32} {x2 : Int32} {x3 : Int32} {res : (Int32 × StT)} (hf : f_X5_waitIf n st x1 x2 x3 = some res) : CT l yX5_waitIf cX5_waitIf 4 (some .int) 2 44 D cy ee (wC ad cy st) (wC ad cy res.2) [.ref (ad 23), .int x1, .int x2, .int x3] (some (.int res.1)) := by
  refine CT.of (by decide +kernel) (Nat.le_of_ble_eq_true rfl) ?_
  intro p e s m args below meth c A F hr hk K E hA Z ls hl
  have hl : lv_has ls 4 [(0, .ref (ad 23)), (1, .int x1), (2, .int x2), (3, .int x3)] := hl
  have hx := F.1
  have hb := F.2.1
  unfold f_X5_waitIf at hf
  refine lv_iload_n hx hb dX5_waitIf_0 rfl (lv_at hl 1 rfl) ?_
  refine lv_if_eq (tgt := 13) hx hb dX5_waitIf_1 (by decide) (fun c1 => ?_) (fun c1 => ?_)
  · have hf := if_t c1 hf
    refine lv_bipush (v := -7) hx hb dX5_waitIf_13 (by decide) ?_
    have hf := Option.some.inj hf
    subst hf
    exact ret_i F hr hk Z dX5_waitIf_15
  have hf := if_f c1 hf
  refine lv_aload_n hx hb dX5_waitIf_4 rfl (lv_at hl 0 rfl) ?_
  refine lv_iload_n hx hb dX5_waitIf_5 rfl (lv_at hl 2 rfl) ?_
  refine lv_iload_n hx hb dX5_waitIf_6 rfl (lv_at hl 3 rfl) ?_
  obtain ⟨q7, h7, hf⟩ := bind_some hf
  refine krX5_97_X5_waitFor F K E hA Z h7 ⟨Nat.le_of_ble_eq_true rfl, Nat.le_of_ble_eq_true rfl⟩ hl.1 (Nat.le_of_ble_eq_true rfl) dX5_waitIf_7 (fun H locs Z => ?_)
  refine lv_goto (tgt := 15) hx hb dX5_waitIf_10 (by decide) ?_
  have hf := Option.some.inj hf
  subst hf
  exact ret_i F hr hk Z dX5_waitIf_15
def f_X5_kept_45 (n : Nat) (st : StT) (x1 : Int32) : Option (Int32 × StT) := if x1 < 0 then (some ((-1 : Int32), st)) else (if (200 : Int32) ≤ x1 then (some ((-1 : Int32), st)) else (if inB x1 200 = true then (some ((st.2.1 34 (x1).toNatClampNeg), st)) else none))
section
variable {p : Program} {l : Launch} {e : Env} {R : Room} {s : State} {m : MethodId} {args : Array Value} {below : List Frame} {meth : Method} {c : Code} {H : Heap} {locs : List Loc} {Q : State → Prop}
variable {cc : ByteArray} {nL pc : Nat} {ls : Array Slot} {rest : List Value} {D : va_G} {A : Nat → Prop} {cw : Cond} {ad : Nat → Nat} {cy : Nat → ClassId} {ee : EE} {st : StT} {own : String}
theorem al45 {i : Int32} (F : CallFix p m c cc nL s args (cw :: Gw) own) (K : va_K D vwCl (tyL cy) s) (Z : ZG D (wC ad cy st) A s H locs) (hi : inB i 200 = true) (hd : decode cc pc = .ok (.iaload, 1)) (kk : W p l e R s m args below meth c H locs 0 0 Q (F0 m (pc + 1) ls (.int (st.2.1 34 i.toNatClampNeg) :: rest))) : W p l e R s m args below meth c H locs 0 0 Q (F0 m pc ls (.int i :: .ref (ad 45) :: rest)) :=
  va_iald F.1 F.2.1 K Z.1 45 1 rfl rfl (inB_vp hi) hd kk
end
set_option maxRecDepth 100000 in
set_option maxHeartbeats 4000000 in
theorem c_X5_kept_45 {l : Launch} {D : va_G} {ad : Nat → Nat} {cy : Nat → ClassId} {ee : EE} {n : Nat} {st : StT} {x1 : Int32} {res : (Int32 × StT)} (hf : f_X5_kept_45 n st x1 = some res) : CT l yX5_kept cX5_kept 2 (some .int) 0 0 D cy ee (wC ad cy st) (wC ad cy res.2) [.ref (ad 45), .int x1] (some (.int res.1)) := by
  refine CT.of (by decide +kernel) (Nat.le_of_ble_eq_true rfl) ?_
  intro p e s m args below meth c A F hr hk K E hA Z ls hl
  have hl : lv_has ls 2 [(0, .ref (ad 45)), (1, .int x1)] := hl
  have hx := F.1
  have hb := F.2.1
  unfold f_X5_kept_45 at hf
  refine lv_iload_n hx hb dX5_kept_0 rfl (lv_at hl 1 rfl) ?_
  refine lv_if_lt (tgt := 16) hx hb dX5_kept_1 (by decide) (fun c1 => ?_) (fun c1 => ?_)
  · have hf := if_t c1 hf
    refine lv_iconst (v := -1) hx hb dX5_kept_16 (by decide) ?_
    have hf := Option.some.inj hf
    subst hf
    exact ret_i F hr hk Z dX5_kept_17
  have hf := if_f c1 hf
  refine lv_iload_n hx hb dX5_kept_4 rfl (lv_at hl 1 rfl) ?_
  refine lv_aload_n hx hb dX5_kept_5 rfl (lv_at hl 0 rfl) ?_
  refine an45 F K Z dX5_kept_6 ?_
  refine lv_icmp_ge (tgt := 16) hx hb dX5_kept_7 (by decide) (fun c7 => ?_) (fun c7 => ?_)
  · have hf := if_t c7 hf
    refine lv_iconst (v := -1) hx hb dX5_kept_16 (by decide) ?_
    have hf := Option.some.inj hf
    subst hf
    exact ret_i F hr hk Z dX5_kept_17
  have hf := if_f c7 hf
  refine lv_aload_n hx hb dX5_kept_10 rfl (lv_at hl 0 rfl) ?_
  refine lv_iload_n hx hb dX5_kept_11 rfl (lv_at hl 1 rfl) ?_
  obtain ⟨i12, hf⟩ := if_some hf
  refine al45 F K Z i12 dX5_kept_12 ?_
  refine lv_goto (tgt := 17) hx hb dX5_kept_13 (by decide) ?_
  have hf := Option.some.inj hf
  subst hf
  exact ret_i F hr hk Z dX5_kept_17
def f_X5_beginNested (n : Nat) (st : StT) (x1 : Int32) (x2 : Int32) : Option (Int32 × StT) := (f_X6_formulaAt n st x1 x2).bind fun q6 => ((f_X1_firstOf_F0 n q6.2 q6.1).bind fun q19 => ((f_X1_firstOf_F0 n q19.2 q19.1).bind fun q22 => ((f_X1_firstOf_F0 n q22.2 q6.1).bind fun q36 => ((f_X1_secondOf_F0 n q36.2 q36.1).bind fun q39 => ((f_X1_secondOf_F0 n q39.2 q6.1).bind fun q56 => ((f_X1_joined_F0 n q56.2 (5 : Int32) q39.1 q56.1).bind fun q59 => (if 0 ≤ q59.1 then ((f_X7_hypothesis_T1 n q59.2 (0 : Int32)).bind fun q77 => ((f_X6_termAt n q77.2 x1 x2).bind fun q94 => ((f_X7_lambda_T1 n q94.2 q22.1 q77.1 (-1 : Int32)).bind fun q106 => ((f_X7_two_T1 n q106.2 (65 : Int32) q94.1 q106.1).bind fun q109 => ((f_X5_keep_43 n q109.2 x1 x2).bind fun q120 => ((f_X7_hypothesis_T1 n q120 (0 : Int32)).bind fun q133 => ((f_X5_keep_45 n q133.2 x1 q133.1).bind fun q136 => ((f_X6_follow n q136 x1 x2 q39.1).bind fun q147 => ((f_X7_lambda_T1 n q147 q39.1 q109.1 q77.1).bind fun q170 => ((f_X6_comes n q170.2 (x1 + (1 : Int32)) q59.1 q170.1).bind fun q173 => (if q173.1 = 0 then ((f_X5_waitIf n q173.2 (0 : Int32) x1 (8 : Int32)).bind fun q210 => (some (q210.1, q210.2))) else ((f_X5_kept_45 n q173.2 x1).bind fun q193 => ((f_X6_comes n q193.2 (x1 + (1 : Int32)) q22.1 q193.1).bind fun q196 => (if q196.1 = 0 then ((f_X5_waitIf n q196.2 (0 : Int32) x1 (8 : Int32)).bind fun q210 => (some (q210.1, q210.2))) else ((f_X5_waitIf n q196.2 (1 : Int32) x1 (8 : Int32)).bind fun q210 => (some (q210.1, q210.2))))))))))))))))) else (some ((-7 : Int32), q59.2)))))))))
theorem wd163 : Cond.methodLink RX5 157 yX5_waitIf ∈ Gw := gT4 (List.mem_of_getElem? (i := 142) rfl) rfl
theorem wd164 : Cond.code yX5_waitIf prog_7_method_7_code 4 (some .int) ∈ Gw := gT4 (List.mem_of_getElem? (i := 145) rfl) rfl
theorem wd165 : Cond.instanceMethod yX5_waitIf ∈ Gw := gT4 (List.mem_of_getElem? (i := 144) rfl) rfl
theorem wd166 : Cond.selects RX5 yX5_waitIf yX5_waitIf ∈ Gw := gP2 (q := (yX5_waitIf, 14)) (List.mem_of_getElem? (i := 14) rfl)
theorem wd167 : Cond.methodLink RX5 81 yX6_comes ∈ Gw := gT4 (List.mem_of_getElem? (i := 78) rfl) rfl
theorem wd168 : Cond.code yX6_comes prog_8_method_11_code 4 (some .boolean) ∈ Gw := gT4 (List.mem_of_getElem? (i := 81) rfl) rfl
theorem wd169 : Cond.instanceMethod yX6_comes ∈ Gw := gT4 (List.mem_of_getElem? (i := 79) rfl) rfl
theorem wd170 : Cond.selects RX6 yX6_comes yX6_comes ∈ Gw := gT4 (List.mem_of_getElem? (i := 80) rfl) rfl
theorem wd171 : Cond.methodLink RX5 153 yX5_kept ∈ Gw := gT4 (List.mem_of_getElem? (i := 139) rfl) rfl
theorem wd172 : Cond.code yX5_kept prog_7_method_4_code 2 (some .int) ∈ Gw := gT4 (List.mem_of_getElem? (i := 141) rfl) rfl
theorem wd173 : Cond.static yX5_kept ∈ Gw := gT4 (List.mem_of_getElem? (i := 140) rfl) rfl
theorem wd174 : Cond.methodLink RX5 192 yX7_lambda ∈ Gw := gT4 (List.mem_of_getElem? (i := 187) rfl) rfl
theorem wd175 : Cond.code yX7_lambda prog_9_method_8_code 4 (some .int) ∈ Gw := gT4 (List.mem_of_getElem? (i := 190) rfl) rfl
theorem wd176 : Cond.instanceMethod yX7_lambda ∈ Gw := gT4 (List.mem_of_getElem? (i := 188) rfl) rfl
theorem wd177 : Cond.selects RX7 yX7_lambda yX7_lambda ∈ Gw := gT4 (List.mem_of_getElem? (i := 189) rfl) rfl
theorem wd178 : Cond.methodLink RX5 137 yX6_follow ∈ Gw := gT4 (List.mem_of_getElem? (i := 134) rfl) rfl
theorem wd179 : Cond.code yX6_follow prog_8_method_10_code 7 none ∈ Gw := gT4 (List.mem_of_getElem? (i := 137) rfl) rfl
theorem wd180 : Cond.instanceMethod yX6_follow ∈ Gw := gT4 (List.mem_of_getElem? (i := 135) rfl) rfl
theorem wd181 : Cond.selects RX6 yX6_follow yX6_follow ∈ Gw := gT4 (List.mem_of_getElem? (i := 136) rfl) rfl
theorem wd182 : Cond.methodLink RX5 77 yX7_hypothesis ∈ Gw := gT4 (List.mem_of_getElem? (i := 70) rfl) rfl
theorem wd183 : Cond.code yX7_hypothesis prog_9_method_6_code 2 (some .int) ∈ Gw := gT4 (List.mem_of_getElem? (i := 73) rfl) rfl
theorem wd184 : Cond.instanceMethod yX7_hypothesis ∈ Gw := gT4 (List.mem_of_getElem? (i := 71) rfl) rfl
theorem wd185 : Cond.selects RX7 yX7_hypothesis yX7_hypothesis ∈ Gw := gT4 (List.mem_of_getElem? (i := 72) rfl) rfl
theorem wd186 : Cond.methodLink RX5 178 yX7_two ∈ Gw := gT4 (List.mem_of_getElem? (i := 178) rfl) rfl
theorem wd187 : Cond.code yX7_two prog_9_method_10_code 4 (some .int) ∈ Gw := gT4 (List.mem_of_getElem? (i := 181) rfl) rfl
theorem wd188 : Cond.instanceMethod yX7_two ∈ Gw := gT4 (List.mem_of_getElem? (i := 179) rfl) rfl
theorem wd189 : Cond.selects RX7 yX7_two yX7_two ∈ Gw := gT4 (List.mem_of_getElem? (i := 180) rfl) rfl
theorem wd190 : Cond.methodLink RX5 113 yX6_termAt ∈ Gw := gT4 (List.mem_of_getElem? (i := 105) rfl) rfl
theorem wd191 : Cond.code yX6_termAt prog_8_method_7_code 3 (some .int) ∈ Gw := gT4 (List.mem_of_getElem? (i := 108) rfl) rfl
theorem wd192 : Cond.instanceMethod yX6_termAt ∈ Gw := gT4 (List.mem_of_getElem? (i := 106) rfl) rfl
theorem wd193 : Cond.selects RX6 yX6_termAt yX6_termAt ∈ Gw := gT4 (List.mem_of_getElem? (i := 107) rfl) rfl
theorem wd194 : Cond.methodLink RX5 189 yX1_joined ∈ Gw := gT4 (List.mem_of_getElem? (i := 186) rfl) rfl
theorem wd195 : Cond.code yX1_joined prog_3_method_10_code 6 (some .int) ∈ Gw := gT1 (List.mem_of_getElem? (i := 75) rfl) rfl
theorem wd196 : Cond.instanceMethod yX1_joined ∈ Gw := gT1 (List.mem_of_getElem? (i := 73) rfl) rfl
theorem wd197 : Cond.selects RX1 yX1_joined yX1_joined ∈ Gw := gT1 (List.mem_of_getElem? (i := 74) rfl) rfl
theorem wd198 : Cond.methodLink RX5 150 yX1_secondOf ∈ Gw := gT4 (List.mem_of_getElem? (i := 133) rfl) rfl
theorem wd199 : Cond.code yX1_secondOf prog_3_method_8_code 2 (some .int) ∈ Gw := gT3 (List.mem_of_getElem? (i := 189) rfl) rfl
theorem wd200 : Cond.instanceMethod yX1_secondOf ∈ Gw := gT3 (List.mem_of_getElem? (i := 187) rfl) rfl
theorem wd201 : Cond.selects RX1 yX1_secondOf yX1_secondOf ∈ Gw := gT3 (List.mem_of_getElem? (i := 188) rfl) rfl
section
variable {p : Program} {l : Launch} {e : Env} {R : Room} {s : State} {m : MethodId} {args : Array Value} {below : List Frame} {meth : Method} {c : Code} {H : Heap} {locs : List Loc} {Q : State → Prop}
variable {cc : ByteArray} {nL pc : Nat} {ls : Array Slot} {rest : List Value} {D : va_G} {A : Nat → Prop} {cw : Cond} {ad : Nat → Nat} {cy : Nat → ClassId} {ee : EE} {st : StT} {own : String}
theorem krX5_157_X5_waitIf {n : Nat} {a0 : Int32} {a1 : Int32} {a2 : Int32} {q : (Int32 × StT)} (F : CallFix p m c cc nL s args (cw :: Gw) RX5) (K : va_K D vwCl (tyL cy) s) (E : EV ee A s s.heap) (hA : ∀ q, s.heap.size ≤ q → A q) (Z : ZG D (wC ad cy st) A s H locs) (hf : f_X5_waitIf n st a0 a1 a2 = some q) (hR : 3 ≤ R.frames ∧ 67 ≤ R.locals) (hl : ls.size = nL) (hst : (rest.map fun v => v.category).sum ≤ 8) (hd : decode cc pc = .ok (.invokevirtual 157, 3)) (kk : ∀ (H1 : Heap) (locs1 : List Loc), ZG D (wC ad cy q.2) A s H1 locs1 → W p l e R s m args below meth c H1 locs1 0 0 Q (F0 m (pc + 3) ls (.int q.1 :: rest))) : W p l e R s m args below meth c H locs 0 0 Q (F0 m pc ls (.int a2 :: .int a1 :: .int a0 :: .ref (ad 23) :: rest)) :=
  call_V (q := (RX5, TX5, 14)) (n := 3) (As := [.int a0, .int a1, .int a2]) (rv := some (.int q.1)) 23 5 F K E hA Z (c_X5_waitIf (l := l) (D := D) (ad := ad) (cy := cy) (ee := ee) hf) ⟨wd164, wd163, wd165, wd166, wd141⟩ (by decide +kernel) rfl rfl hR rfl hl hst hd kk
theorem krX5_81_X6_comes {n : Nat} {a0 : Int32} {a1 : Int32} {a2 : Int32} {q : (Int32 × StT)} (F : CallFix p m c cc nL s args (cw :: Gw) RX5) (K : va_K D vwCl (tyL cy) s) (E : EV ee A s s.heap) (hA : ∀ q, s.heap.size ≤ q → A q) (Z : ZG D (wC ad cy st) A s H locs) (hf : f_X6_comes n st a0 a1 a2 = some q) (hR : 3 ≤ R.frames ∧ 68 ≤ R.locals) (hl : ls.size = nL) (hst : (rest.map fun v => v.category).sum ≤ 8) (hd : decode cc pc = .ok (.invokevirtual 81, 3)) (kk : ∀ (H1 : Heap) (locs1 : List Loc), ZG D (wC ad cy q.2) A s H1 locs1 → W p l e R s m args below meth c H1 locs1 0 0 Q (F0 m (pc + 3) ls (.int q.1 :: rest))) : W p l e R s m args below meth c H locs 0 0 Q (F0 m pc ls (.int a2 :: .int a1 :: .int a0 :: .ref (ad 30) :: rest)) :=
  call_V (q := (RX6, TX6, 5)) (n := 3) (As := [.int a0, .int a1, .int a2]) (rv := some (.int q.1)) 30 6 F K E hA Z (c_X6_comes (l := l) (D := D) (ad := ad) (cy := cy) (ee := ee) hf) ⟨wd168, wd167, wd169, wd170, wd78⟩ (by decide +kernel) rfl rfl hR rfl hl hst hd kk
theorem krX5_153_X5_kept_45 {n : Nat} {a1 : Int32} {q : (Int32 × StT)} (F : CallFix p m c cc nL s args (cw :: Gw) RX5) (K : va_K D vwCl (tyL cy) s) (E : EV ee A s s.heap) (hA : ∀ q, s.heap.size ≤ q → A q) (Z : ZG D (wC ad cy st) A s H locs) (hf : f_X5_kept_45 n st a1 = some q) (hR : 1 ≤ R.frames ∧ 21 ≤ R.locals) (hl : ls.size = nL) (hst : (rest.map fun v => v.category).sum ≤ 8) (hd : decode cc pc = .ok (.invokestatic 153, 3)) (kk : ∀ (H1 : Heap) (locs1 : List Loc), ZG D (wC ad cy q.2) A s H1 locs1 → W p l e R s m args below meth c H1 locs1 0 0 Q (F0 m (pc + 3) ls (.int q.1 :: rest))) : W p l e R s m args below meth c H locs 0 0 Q (F0 m pc ls (.int a1 :: .ref (ad 45) :: rest)) :=
  call_S (n := 2) (As := [.ref (ad 45), .int a1]) (rv := some (.int q.1)) F K E hA Z (c_X5_kept_45 (l := l) (D := D) (ad := ad) (cy := cy) (ee := ee) hf) ⟨wd172, wd171, wd173, wd141⟩ (by decide +kernel) hR rfl hl hst hd kk
theorem krX5_192_X7_lambda_T1 {n : Nat} {a0 : Int32} {a1 : Int32} {a2 : Int32} {q : (Int32 × StT)} (F : CallFix p m c cc nL s args (cw :: Gw) RX5) (K : va_K D vwCl (tyL cy) s) (E : EV ee A s s.heap) (hA : ∀ q, s.heap.size ≤ q → A q) (Z : ZG D (wC ad cy st) A s H locs) (hf : f_X7_lambda_T1 n st a0 a1 a2 = some q) (hR : 2 ≤ R.frames ∧ 49 ≤ R.locals) (hl : ls.size = nL) (hst : (rest.map fun v => v.category).sum ≤ 8) (hd : decode cc pc = .ok (.invokevirtual 192, 3)) (kk : ∀ (H1 : Heap) (locs1 : List Loc), ZG D (wC ad cy q.2) A s H1 locs1 → W p l e R s m args below meth c H1 locs1 0 0 Q (F0 m (pc + 3) ls (.int q.1 :: rest))) : W p l e R s m args below meth c H locs 0 0 Q (F0 m pc ls (.int a2 :: .int a1 :: .int a0 :: .ref (ad 24) :: rest)) :=
  call_V (q := (RX7, TX7, 7)) (n := 3) (As := [.int a0, .int a1, .int a2]) (rv := some (.int q.1)) 24 7 F K E hA Z (c_X7_lambda_T1 (l := l) (D := D) (ad := ad) (cy := cy) (ee := ee) hf) ⟨wd175, wd174, wd176, wd177, wd60⟩ (by decide +kernel) rfl rfl hR rfl hl hst hd kk
theorem krX5_137_X6_follow {n : Nat} {a0 : Int32} {a1 : Int32} {a2 : Int32} {q : StT} (F : CallFix p m c cc nL s args (cw :: Gw) RX5) (K : va_K D vwCl (tyL cy) s) (E : EV ee A s s.heap) (hA : ∀ q, s.heap.size ≤ q → A q) (Z : ZG D (wC ad cy st) A s H locs) (hf : f_X6_follow n st a0 a1 a2 = some q) (hR : 2 ≤ R.frames ∧ 46 ≤ R.locals) (hl : ls.size = nL) (hst : (rest.map fun v => v.category).sum ≤ 8) (hd : decode cc pc = .ok (.invokevirtual 137, 3)) (kk : ∀ (H1 : Heap) (locs1 : List Loc), ZG D (wC ad cy q) A s H1 locs1 → W p l e R s m args below meth c H1 locs1 0 0 Q (F0 m (pc + 3) ls (rest))) : W p l e R s m args below meth c H locs 0 0 Q (F0 m pc ls (.int a2 :: .int a1 :: .int a0 :: .ref (ad 30) :: rest)) :=
  call_V (q := (RX6, TX6, 5)) (n := 3) (As := [.int a0, .int a1, .int a2]) (rv := none) 30 6 F K E hA Z (c_X6_follow (l := l) (D := D) (ad := ad) (cy := cy) (ee := ee) hf) ⟨wd179, wd178, wd180, wd181, wd78⟩ (by decide +kernel) rfl rfl hR rfl hl hst hd kk
theorem krX5_93_X5_keep_45 {n : Nat} {a1 : Int32} {a2 : Int32} {q : StT} (F : CallFix p m c cc nL s args (cw :: Gw) RX5) (K : va_K D vwCl (tyL cy) s) (E : EV ee A s s.heap) (hA : ∀ q, s.heap.size ≤ q → A q) (Z : ZG D (wC ad cy st) A s H locs) (hf : f_X5_keep_45 n st a1 a2 = some q) (hR : 1 ≤ R.frames ∧ 22 ≤ R.locals) (hl : ls.size = nL) (hst : (rest.map fun v => v.category).sum ≤ 8) (hd : decode cc pc = .ok (.invokestatic 93, 3)) (kk : ∀ (H1 : Heap) (locs1 : List Loc), ZG D (wC ad cy q) A s H1 locs1 → W p l e R s m args below meth c H1 locs1 0 0 Q (F0 m (pc + 3) ls (rest))) : W p l e R s m args below meth c H locs 0 0 Q (F0 m pc ls (.int a2 :: .int a1 :: .ref (ad 45) :: rest)) :=
  call_S (n := 3) (As := [.ref (ad 45), .int a1, .int a2]) (rv := none) F K E hA Z (c_X5_keep_45 (l := l) (D := D) (ad := ad) (cy := cy) (ee := ee) hf) ⟨wd139, wd138, wd140, wd141⟩ (by decide +kernel) hR rfl hl hst hd kk
theorem krX5_77_X7_hypothesis_T1 {n : Nat} {a0 : Int32} {q : (Int32 × StT)} (F : CallFix p m c cc nL s args (cw :: Gw) RX5) (K : va_K D vwCl (tyL cy) s) (E : EV ee A s s.heap) (hA : ∀ q, s.heap.size ≤ q → A q) (Z : ZG D (wC ad cy st) A s H locs) (hf : f_X7_hypothesis_T1 n st a0 = some q) (hR : 2 ≤ R.frames ∧ 47 ≤ R.locals) (hl : ls.size = nL) (hst : (rest.map fun v => v.category).sum ≤ 8) (hd : decode cc pc = .ok (.invokevirtual 77, 3)) (kk : ∀ (H1 : Heap) (locs1 : List Loc), ZG D (wC ad cy q.2) A s H1 locs1 → W p l e R s m args below meth c H1 locs1 0 0 Q (F0 m (pc + 3) ls (.int q.1 :: rest))) : W p l e R s m args below meth c H locs 0 0 Q (F0 m pc ls (.int a0 :: .ref (ad 24) :: rest)) :=
  call_V (q := (RX7, TX7, 7)) (n := 1) (As := [.int a0]) (rv := some (.int q.1)) 24 7 F K E hA Z (c_X7_hypothesis_T1 (l := l) (D := D) (ad := ad) (cy := cy) (ee := ee) hf) ⟨wd183, wd182, wd184, wd185, wd60⟩ (by decide +kernel) rfl rfl hR rfl hl hst hd kk
theorem krX5_93_X5_keep_43 {n : Nat} {a1 : Int32} {a2 : Int32} {q : StT} (F : CallFix p m c cc nL s args (cw :: Gw) RX5) (K : va_K D vwCl (tyL cy) s) (E : EV ee A s s.heap) (hA : ∀ q, s.heap.size ≤ q → A q) (Z : ZG D (wC ad cy st) A s H locs) (hf : f_X5_keep_43 n st a1 a2 = some q) (hR : 1 ≤ R.frames ∧ 22 ≤ R.locals) (hl : ls.size = nL) (hst : (rest.map fun v => v.category).sum ≤ 8) (hd : decode cc pc = .ok (.invokestatic 93, 3)) (kk : ∀ (H1 : Heap) (locs1 : List Loc), ZG D (wC ad cy q) A s H1 locs1 → W p l e R s m args below meth c H1 locs1 0 0 Q (F0 m (pc + 3) ls (rest))) : W p l e R s m args below meth c H locs 0 0 Q (F0 m pc ls (.int a2 :: .int a1 :: .ref (ad 43) :: rest)) :=
  call_S (n := 3) (As := [.ref (ad 43), .int a1, .int a2]) (rv := none) F K E hA Z (c_X5_keep_43 (l := l) (D := D) (ad := ad) (cy := cy) (ee := ee) hf) ⟨wd139, wd138, wd140, wd141⟩ (by decide +kernel) hR rfl hl hst hd kk
theorem krX5_178_X7_two_T1 {n : Nat} {a0 : Int32} {a1 : Int32} {a2 : Int32} {q : (Int32 × StT)} (F : CallFix p m c cc nL s args (cw :: Gw) RX5) (K : va_K D vwCl (tyL cy) s) (E : EV ee A s s.heap) (hA : ∀ q, s.heap.size ≤ q → A q) (Z : ZG D (wC ad cy st) A s H locs) (hf : f_X7_two_T1 n st a0 a1 a2 = some q) (hR : 2 ≤ R.frames ∧ 49 ≤ R.locals) (hl : ls.size = nL) (hst : (rest.map fun v => v.category).sum ≤ 8) (hd : decode cc pc = .ok (.invokevirtual 178, 3)) (kk : ∀ (H1 : Heap) (locs1 : List Loc), ZG D (wC ad cy q.2) A s H1 locs1 → W p l e R s m args below meth c H1 locs1 0 0 Q (F0 m (pc + 3) ls (.int q.1 :: rest))) : W p l e R s m args below meth c H locs 0 0 Q (F0 m pc ls (.int a2 :: .int a1 :: .int a0 :: .ref (ad 24) :: rest)) :=
  call_V (q := (RX7, TX7, 7)) (n := 3) (As := [.int a0, .int a1, .int a2]) (rv := some (.int q.1)) 24 7 F K E hA Z (c_X7_two_T1 (l := l) (D := D) (ad := ad) (cy := cy) (ee := ee) hf) ⟨wd187, wd186, wd188, wd189, wd60⟩ (by decide +kernel) rfl rfl hR rfl hl hst hd kk
theorem krX5_113_X6_termAt {n : Nat} {a0 : Int32} {a1 : Int32} {q : (Int32 × StT)} (F : CallFix p m c cc nL s args (cw :: Gw) RX5) (K : va_K D vwCl (tyL cy) s) (E : EV ee A s s.heap) (hA : ∀ q, s.heap.size ≤ q → A q) (Z : ZG D (wC ad cy st) A s H locs) (hf : f_X6_termAt n st a0 a1 = some q) (hR : 2 ≤ R.frames ∧ 44 ≤ R.locals) (hl : ls.size = nL) (hst : (rest.map fun v => v.category).sum ≤ 8) (hd : decode cc pc = .ok (.invokevirtual 113, 3)) (kk : ∀ (H1 : Heap) (locs1 : List Loc), ZG D (wC ad cy q.2) A s H1 locs1 → W p l e R s m args below meth c H1 locs1 0 0 Q (F0 m (pc + 3) ls (.int q.1 :: rest))) : W p l e R s m args below meth c H locs 0 0 Q (F0 m pc ls (.int a1 :: .int a0 :: .ref (ad 30) :: rest)) :=
  call_V (q := (RX6, TX6, 5)) (n := 2) (As := [.int a0, .int a1]) (rv := some (.int q.1)) 30 6 F K E hA Z (c_X6_termAt (l := l) (D := D) (ad := ad) (cy := cy) (ee := ee) hf) ⟨wd191, wd190, wd192, wd193, wd78⟩ (by decide +kernel) rfl rfl hR rfl hl hst hd kk
theorem krX5_189_X1_joined_F0 {n : Nat} {a0 : Int32} {a1 : Int32} {a2 : Int32} {q : (Int32 × StT)} (F : CallFix p m c cc nL s args (cw :: Gw) RX5) (K : va_K D vwCl (tyL cy) s) (E : EV ee A s s.heap) (hA : ∀ q, s.heap.size ≤ q → A q) (Z : ZG D (wC ad cy st) A s H locs) (hf : f_X1_joined_F0 n st a0 a1 a2 = some q) (hR : 2 ≤ R.frames ∧ 51 ≤ R.locals) (hl : ls.size = nL) (hst : (rest.map fun v => v.category).sum ≤ 8) (hd : decode cc pc = .ok (.invokevirtual 189, 3)) (kk : ∀ (H1 : Heap) (locs1 : List Loc), ZG D (wC ad cy q.2) A s H1 locs1 → W p l e R s m args below meth c H1 locs1 0 0 Q (F0 m (pc + 3) ls (.int q.1 :: rest))) : W p l e R s m args below meth c H locs 0 0 Q (F0 m pc ls (.int a2 :: .int a1 :: .int a0 :: .ref (ad 4) :: rest)) :=
  call_V (q := (RX1, TX1, 9)) (n := 3) (As := [.int a0, .int a1, .int a2]) (rv := some (.int q.1)) 4 1 F K E hA Z (c_X1_joined_F0 (l := l) (D := D) (ad := ad) (cy := cy) (ee := ee) hf) ⟨wd195, wd194, wd196, wd197, wd17⟩ (by decide +kernel) rfl rfl hR rfl hl hst hd kk
theorem krX5_150_X1_secondOf_F0 {n : Nat} {a0 : Int32} {q : (Int32 × StT)} (F : CallFix p m c cc nL s args (cw :: Gw) RX5) (K : va_K D vwCl (tyL cy) s) (E : EV ee A s s.heap) (hA : ∀ q, s.heap.size ≤ q → A q) (Z : ZG D (wC ad cy st) A s H locs) (hf : f_X1_secondOf_F0 n st a0 = some q) (hR : 2 ≤ R.frames ∧ 42 ≤ R.locals) (hl : ls.size = nL) (hst : (rest.map fun v => v.category).sum ≤ 8) (hd : decode cc pc = .ok (.invokevirtual 150, 3)) (kk : ∀ (H1 : Heap) (locs1 : List Loc), ZG D (wC ad cy q.2) A s H1 locs1 → W p l e R s m args below meth c H1 locs1 0 0 Q (F0 m (pc + 3) ls (.int q.1 :: rest))) : W p l e R s m args below meth c H locs 0 0 Q (F0 m pc ls (.int a0 :: .ref (ad 4) :: rest)) :=
  call_V (q := (RX1, TX1, 9)) (n := 1) (As := [.int a0]) (rv := some (.int q.1)) 4 1 F K E hA Z (c_X1_secondOf_F0 (l := l) (D := D) (ad := ad) (cy := cy) (ee := ee) hf) ⟨wd199, wd198, wd200, wd201, wd17⟩ (by decide +kernel) rfl rfl hR rfl hl hst hd kk
end
set_option maxRecDepth 100000 in
set_option maxHeartbeats 4000000 in
theorem c_X5_beginNested {l : Launch} {D : va_G} {ad : Nat → Nat} {cy : Nat → ClassId} {ee : EE} {n : Nat} {st : StT} {x1 : Int32} {x2 : Int32} {res : (Int32 × StT)} (hf : f_X5_beginNested n st x1 x2 = some res) : CT l yX5_beginNested cX5_beginNested 9 (some .int) 3 68 D cy ee (wC ad cy st) (wC ad cy res.2) [.ref (ad 23), .int x1, .int x2] (some (.int res.1)) := by
  refine CT.of (by decide +kernel) (Nat.le_of_ble_eq_true rfl) ?_
  intro p e s m args below meth c A F hr hk K E hA Z ls hl
  have hl : lv_has ls 9 [(0, .ref (ad 23)), (1, .int x1), (2, .int x2)] := hl
  have hx := F.1
  have hb := F.2.1
  unfold f_X5_beginNested at hf
  refine lv_aload_n hx hb dX5_beginNested_0 rfl (lv_at hl 0 rfl) ?_
  refine grX5_23_23 F K Z dX5_beginNested_1 ?_
  refine lv_iload_n hx hb dX5_beginNested_4 rfl (lv_at hl 1 rfl) ?_
  refine lv_iload_n hx hb dX5_beginNested_5 rfl (lv_at hl 2 rfl) ?_
  obtain ⟨q6, h6, hf⟩ := bind_some hf
  refine krX5_164_X6_formulaAt F K E hA Z h6 ⟨Nat.le_of_ble_eq_true rfl, Nat.le_of_ble_eq_true rfl⟩ hl.1 (Nat.le_of_ble_eq_true rfl) dX5_beginNested_6 (fun H locs Z => ?_)
  refine lv_istore_n (lv' := [(3, .int q6.1), (0, .ref (ad 23)), (1, .int x1), (2, .int x2)]) hx hb dX5_beginNested_9 rfl hl (by decide) rfl (fun ls hl => ?_)
  refine lv_aload_n hx hb dX5_beginNested_10 rfl (lv_at hl 1 rfl) ?_
  refine grX5_54_23 F K Z dX5_beginNested_11 ?_
  refine lv_aload_n hx hb dX5_beginNested_14 rfl (lv_at hl 1 rfl) ?_
  refine grX5_54_23 F K Z dX5_beginNested_15 ?_
  refine lv_iload_n hx hb dX5_beginNested_18 rfl (lv_at hl 0 rfl) ?_
  obtain ⟨q19, h19, hf⟩ := bind_some hf
  refine krX5_134_X1_firstOf_F0 F K E hA Z h19 ⟨Nat.le_of_ble_eq_true rfl, Nat.le_of_ble_eq_true rfl⟩ hl.1 (Nat.le_of_ble_eq_true rfl) dX5_beginNested_19 (fun H locs Z => ?_)
  obtain ⟨q22, h22, hf⟩ := bind_some hf
  refine krX5_134_X1_firstOf_F0 F K E hA Z h22 ⟨Nat.le_of_ble_eq_true rfl, Nat.le_of_ble_eq_true rfl⟩ hl.1 (Nat.le_of_ble_eq_true rfl) dX5_beginNested_22 (fun H locs Z => ?_)
  refine lv_istore (lv' := [(4, .int q22.1), (3, .int q6.1), (0, .ref (ad 23)), (1, .int x1), (2, .int x2)]) hx hb dX5_beginNested_25 hl (by decide) rfl (fun ls hl => ?_)
  refine lv_aload_n hx hb dX5_beginNested_27 rfl (lv_at hl 2 rfl) ?_
  refine grX5_54_23 F K Z dX5_beginNested_28 ?_
  refine lv_aload_n hx hb dX5_beginNested_31 rfl (lv_at hl 2 rfl) ?_
  refine grX5_54_23 F K Z dX5_beginNested_32 ?_
  refine lv_iload_n hx hb dX5_beginNested_35 rfl (lv_at hl 1 rfl) ?_
  obtain ⟨q36, h36, hf⟩ := bind_some hf
  refine krX5_134_X1_firstOf_F0 F K E hA Z h36 ⟨Nat.le_of_ble_eq_true rfl, Nat.le_of_ble_eq_true rfl⟩ hl.1 (Nat.le_of_ble_eq_true rfl) dX5_beginNested_36 (fun H locs Z => ?_)
  obtain ⟨q39, h39, hf⟩ := bind_some hf
  refine krX5_150_X1_secondOf_F0 F K E hA Z h39 ⟨Nat.le_of_ble_eq_true rfl, Nat.le_of_ble_eq_true rfl⟩ hl.1 (Nat.le_of_ble_eq_true rfl) dX5_beginNested_39 (fun H locs Z => ?_)
  refine lv_istore (lv' := [(5, .int q39.1), (4, .int q22.1), (3, .int q6.1), (0, .ref (ad 23)), (1, .int x1), (2, .int x2)]) hx hb dX5_beginNested_42 hl (by decide) rfl (fun ls hl => ?_)
  refine lv_aload_n hx hb dX5_beginNested_44 rfl (lv_at hl 3 rfl) ?_
  refine grX5_54_23 F K Z dX5_beginNested_45 ?_
  refine lv_iconst (v := 5) hx hb dX5_beginNested_48 (by decide) ?_
  refine lv_iload hx hb dX5_beginNested_49 (lv_at hl 0 rfl) ?_
  refine lv_aload_n hx hb dX5_beginNested_51 rfl (lv_at hl 3 rfl) ?_
  refine grX5_54_23 F K Z dX5_beginNested_52 ?_
  refine lv_iload_n hx hb dX5_beginNested_55 rfl (lv_at hl 2 rfl) ?_
  obtain ⟨q56, h56, hf⟩ := bind_some hf
  refine krX5_150_X1_secondOf_F0 F K E hA Z h56 ⟨Nat.le_of_ble_eq_true rfl, Nat.le_of_ble_eq_true rfl⟩ hl.1 (Nat.le_of_ble_eq_true rfl) dX5_beginNested_56 (fun H locs Z => ?_)
  obtain ⟨q59, h59, hf⟩ := bind_some hf
  refine krX5_189_X1_joined_F0 F K E hA Z h59 ⟨Nat.le_of_ble_eq_true rfl, Nat.le_of_ble_eq_true rfl⟩ hl.1 (Nat.le_of_ble_eq_true rfl) dX5_beginNested_59 (fun H locs Z => ?_)
  refine lv_istore (lv' := [(6, .int q59.1), (5, .int q39.1), (4, .int q22.1), (3, .int q6.1), (0, .ref (ad 23)), (1, .int x1), (2, .int x2)]) hx hb dX5_beginNested_62 hl (by decide) rfl (fun ls hl => ?_)
  refine lv_iload hx hb dX5_beginNested_64 (lv_at hl 0 rfl) ?_
  refine lv_if_ge (tgt := 72) hx hb dX5_beginNested_66 (by decide) (fun c66 => ?_) (fun c66 => ?_)
  · have hf := if_t c66 hf
    refine lv_aload_n hx hb dX5_beginNested_72 rfl (lv_at hl 4 rfl) ?_
    refine grX5_16_23 F K Z dX5_beginNested_73 ?_
    refine lv_iconst (v := 0) hx hb dX5_beginNested_76 (by decide) ?_
    obtain ⟨q77, h77, hf⟩ := bind_some hf
    refine krX5_77_X7_hypothesis_T1 F K E hA Z h77 ⟨Nat.le_of_ble_eq_true rfl, Nat.le_of_ble_eq_true rfl⟩ hl.1 (Nat.le_of_ble_eq_true rfl) dX5_beginNested_77 (fun H locs Z => ?_)
    refine lv_istore (lv' := [(7, .int q77.1), (6, .int q59.1), (5, .int q39.1), (4, .int q22.1), (3, .int q6.1), (0, .ref (ad 23)), (1, .int x1), (2, .int x2)]) hx hb dX5_beginNested_80 hl (by decide) rfl (fun ls hl => ?_)
    refine lv_aload_n hx hb dX5_beginNested_82 rfl (lv_at hl 5 rfl) ?_
    refine grX5_16_23 F K Z dX5_beginNested_83 ?_
    refine lv_bipush (v := 65) hx hb dX5_beginNested_86 (by decide) ?_
    refine lv_aload_n hx hb dX5_beginNested_88 rfl (lv_at hl 5 rfl) ?_
    refine grX5_23_23 F K Z dX5_beginNested_89 ?_
    refine lv_iload_n hx hb dX5_beginNested_92 rfl (lv_at hl 6 rfl) ?_
    refine lv_iload_n hx hb dX5_beginNested_93 rfl (lv_at hl 7 rfl) ?_
    obtain ⟨q94, h94, hf⟩ := bind_some hf
    refine krX5_113_X6_termAt F K E hA Z h94 ⟨Nat.le_of_ble_eq_true rfl, Nat.le_of_ble_eq_true rfl⟩ hl.1 (Nat.le_of_ble_eq_true rfl) dX5_beginNested_94 (fun H locs Z => ?_)
    refine lv_aload_n hx hb dX5_beginNested_97 rfl (lv_at hl 5 rfl) ?_
    refine grX5_16_23 F K Z dX5_beginNested_98 ?_
    refine lv_iload hx hb dX5_beginNested_101 (lv_at hl 3 rfl) ?_
    refine lv_iload hx hb dX5_beginNested_103 (lv_at hl 0 rfl) ?_
    refine lv_iconst (v := -1) hx hb dX5_beginNested_105 (by decide) ?_
    obtain ⟨q106, h106, hf⟩ := bind_some hf
    refine krX5_192_X7_lambda_T1 F K E hA Z h106 ⟨Nat.le_of_ble_eq_true rfl, Nat.le_of_ble_eq_true rfl⟩ hl.1 (Nat.le_of_ble_eq_true rfl) dX5_beginNested_106 (fun H locs Z => ?_)
    obtain ⟨q109, h109, hf⟩ := bind_some hf
    refine krX5_178_X7_two_T1 F K E hA Z h109 ⟨Nat.le_of_ble_eq_true rfl, Nat.le_of_ble_eq_true rfl⟩ hl.1 (Nat.le_of_ble_eq_true rfl) dX5_beginNested_109 (fun H locs Z => ?_)
    refine lv_istore (lv' := [(8, .int q109.1), (7, .int q77.1), (6, .int q59.1), (5, .int q39.1), (4, .int q22.1), (3, .int q6.1), (0, .ref (ad 23)), (1, .int x1), (2, .int x2)]) hx hb dX5_beginNested_112 hl (by decide) rfl (fun ls hl => ?_)
    refine lv_aload_n hx hb dX5_beginNested_114 rfl (lv_at hl 6 rfl) ?_
    refine grX5_38_23 F K Z dX5_beginNested_115 ?_
    refine lv_iload_n hx hb dX5_beginNested_118 rfl (lv_at hl 7 rfl) ?_
    refine lv_iload_n hx hb dX5_beginNested_119 rfl (lv_at hl 8 rfl) ?_
    obtain ⟨q120, h120, hf⟩ := bind_some hf
    refine krX5_93_X5_keep_43 F K E hA Z h120 ⟨Nat.le_of_ble_eq_true rfl, Nat.le_of_ble_eq_true rfl⟩ hl.1 (Nat.le_of_ble_eq_true rfl) dX5_beginNested_120 (fun H locs Z => ?_)
    refine lv_aload_n hx hb dX5_beginNested_123 rfl (lv_at hl 6 rfl) ?_
    refine grX5_44_23 F K Z dX5_beginNested_124 ?_
    refine lv_iload_n hx hb dX5_beginNested_127 rfl (lv_at hl 7 rfl) ?_
    refine lv_aload_n hx hb dX5_beginNested_128 rfl (lv_at hl 6 rfl) ?_
    refine grX5_16_23 F K Z dX5_beginNested_129 ?_
    refine lv_iconst (v := 0) hx hb dX5_beginNested_132 (by decide) ?_
    obtain ⟨q133, h133, hf⟩ := bind_some hf
    refine krX5_77_X7_hypothesis_T1 F K E hA Z h133 ⟨Nat.le_of_ble_eq_true rfl, Nat.le_of_ble_eq_true rfl⟩ hl.1 (Nat.le_of_ble_eq_true rfl) dX5_beginNested_133 (fun H locs Z => ?_)
    obtain ⟨q136, h136, hf⟩ := bind_some hf
    refine krX5_93_X5_keep_45 F K E hA Z h136 ⟨Nat.le_of_ble_eq_true rfl, Nat.le_of_ble_eq_true rfl⟩ hl.1 (Nat.le_of_ble_eq_true rfl) dX5_beginNested_136 (fun H locs Z => ?_)
    refine lv_aload_n hx hb dX5_beginNested_139 rfl (lv_at hl 6 rfl) ?_
    refine grX5_23_23 F K Z dX5_beginNested_140 ?_
    refine lv_iload_n hx hb dX5_beginNested_143 rfl (lv_at hl 7 rfl) ?_
    refine lv_iload_n hx hb dX5_beginNested_144 rfl (lv_at hl 8 rfl) ?_
    refine lv_iload hx hb dX5_beginNested_145 (lv_at hl 3 rfl) ?_
    obtain ⟨q147, h147, hf⟩ := bind_some hf
    refine krX5_137_X6_follow F K E hA Z h147 ⟨Nat.le_of_ble_eq_true rfl, Nat.le_of_ble_eq_true rfl⟩ hl.1 (Nat.le_of_ble_eq_true rfl) dX5_beginNested_147 (fun H locs Z => ?_)
    refine lv_aload_n hx hb dX5_beginNested_150 rfl (lv_at hl 6 rfl) ?_
    refine lv_aload_n hx hb dX5_beginNested_151 rfl (lv_at hl 6 rfl) ?_
    refine grX5_23_23 F K Z dX5_beginNested_152 ?_
    refine lv_iload_n hx hb dX5_beginNested_155 rfl (lv_at hl 7 rfl) ?_
    refine lv_iconst (v := 1) hx hb dX5_beginNested_156 (by decide) ?_
    refine lv_iadd hx hb dX5_beginNested_157 ?_
    refine lv_iload hx hb dX5_beginNested_158 (lv_at hl 2 rfl) ?_
    refine lv_aload_n hx hb dX5_beginNested_160 rfl (lv_at hl 6 rfl) ?_
    refine grX5_16_23 F K Z dX5_beginNested_161 ?_
    refine lv_iload hx hb dX5_beginNested_164 (lv_at hl 3 rfl) ?_
    refine lv_iload hx hb dX5_beginNested_166 (lv_at hl 0 rfl) ?_
    refine lv_iload hx hb dX5_beginNested_168 (lv_at hl 1 rfl) ?_
    obtain ⟨q170, h170, hf⟩ := bind_some hf
    refine krX5_192_X7_lambda_T1 F K E hA Z h170 ⟨Nat.le_of_ble_eq_true rfl, Nat.le_of_ble_eq_true rfl⟩ hl.1 (Nat.le_of_ble_eq_true rfl) dX5_beginNested_170 (fun H locs Z => ?_)
    obtain ⟨q173, h173, hf⟩ := bind_some hf
    refine krX5_81_X6_comes F K E hA Z h173 ⟨Nat.le_of_ble_eq_true rfl, Nat.le_of_ble_eq_true rfl⟩ hl.1 (Nat.le_of_ble_eq_true rfl) dX5_beginNested_173 (fun H locs Z => ?_)
    refine lv_if_eq (tgt := 206) hx hb dX5_beginNested_176 (by decide) (fun c176 => ?_) (fun c176 => ?_)
    · have hf := if_t c176 hf
      refine lv_iconst (v := 0) hx hb dX5_beginNested_206 (by decide) ?_
      refine lv_iload_n hx hb dX5_beginNested_207 rfl (lv_at hl 7 rfl) ?_
      refine lv_bipush (v := 8) hx hb dX5_beginNested_208 (by decide) ?_
      obtain ⟨q210, h210, hf⟩ := bind_some hf
      refine krX5_157_X5_waitIf F K E hA Z h210 ⟨Nat.le_of_ble_eq_true rfl, Nat.le_of_ble_eq_true rfl⟩ hl.1 (Nat.le_of_ble_eq_true rfl) dX5_beginNested_210 (fun H locs Z => ?_)
      have hf := Option.some.inj hf
      subst hf
      exact ret_i F hr hk Z dX5_beginNested_213
    have hf := if_f c176 hf
    refine lv_aload_n hx hb dX5_beginNested_179 rfl (lv_at hl 6 rfl) ?_
    refine grX5_23_23 F K Z dX5_beginNested_180 ?_
    refine lv_iload_n hx hb dX5_beginNested_183 rfl (lv_at hl 7 rfl) ?_
    refine lv_iconst (v := 1) hx hb dX5_beginNested_184 (by decide) ?_
    refine lv_iadd hx hb dX5_beginNested_185 ?_
    refine lv_iload hx hb dX5_beginNested_186 (lv_at hl 4 rfl) ?_
    refine lv_aload_n hx hb dX5_beginNested_188 rfl (lv_at hl 6 rfl) ?_
    refine grX5_44_23 F K Z dX5_beginNested_189 ?_
    refine lv_iload_n hx hb dX5_beginNested_192 rfl (lv_at hl 7 rfl) ?_
    obtain ⟨q193, h193, hf⟩ := bind_some hf
    refine krX5_153_X5_kept_45 F K E hA Z h193 ⟨Nat.le_of_ble_eq_true rfl, Nat.le_of_ble_eq_true rfl⟩ hl.1 (Nat.le_of_ble_eq_true rfl) dX5_beginNested_193 (fun H locs Z => ?_)
    obtain ⟨q196, h196, hf⟩ := bind_some hf
    refine krX5_81_X6_comes F K E hA Z h196 ⟨Nat.le_of_ble_eq_true rfl, Nat.le_of_ble_eq_true rfl⟩ hl.1 (Nat.le_of_ble_eq_true rfl) dX5_beginNested_196 (fun H locs Z => ?_)
    refine lv_if_eq (tgt := 206) hx hb dX5_beginNested_199 (by decide) (fun c199 => ?_) (fun c199 => ?_)
    · have hf := if_t c199 hf
      refine lv_iconst (v := 0) hx hb dX5_beginNested_206 (by decide) ?_
      refine lv_iload_n hx hb dX5_beginNested_207 rfl (lv_at hl 7 rfl) ?_
      refine lv_bipush (v := 8) hx hb dX5_beginNested_208 (by decide) ?_
      obtain ⟨q210, h210, hf⟩ := bind_some hf
      refine krX5_157_X5_waitIf F K E hA Z h210 ⟨Nat.le_of_ble_eq_true rfl, Nat.le_of_ble_eq_true rfl⟩ hl.1 (Nat.le_of_ble_eq_true rfl) dX5_beginNested_210 (fun H locs Z => ?_)
      have hf := Option.some.inj hf
      subst hf
      exact ret_i F hr hk Z dX5_beginNested_213
    have hf := if_f c199 hf
    refine lv_iconst (v := 1) hx hb dX5_beginNested_202 (by decide) ?_
    refine lv_goto (tgt := 207) hx hb dX5_beginNested_203 (by decide) ?_
    refine lv_iload_n hx hb dX5_beginNested_207 rfl (lv_at hl 7 rfl) ?_
    refine lv_bipush (v := 8) hx hb dX5_beginNested_208 (by decide) ?_
    obtain ⟨q210, h210, hf⟩ := bind_some hf
    refine krX5_157_X5_waitIf F K E hA Z h210 ⟨Nat.le_of_ble_eq_true rfl, Nat.le_of_ble_eq_true rfl⟩ hl.1 (Nat.le_of_ble_eq_true rfl) dX5_beginNested_210 (fun H locs Z => ?_)
    have hf := Option.some.inj hf
    subst hf
    exact ret_i F hr hk Z dX5_beginNested_213
  have hf := if_f c66 hf
  refine lv_bipush (v := -7) hx hb dX5_beginNested_69 (by decide) ?_
  have hf := Option.some.inj hf
  subst hf
  exact ret_i F hr hk Z dX5_beginNested_71
def f_X5_tryNested_6 (n : Nat) : Nat → StT → Int32 → Int32 → Option (Int32 × StT)
  | 0, _, _, _ => none
  | k + 1, st, x1, x3 => (f_X6_sizeOf n st x1).bind fun q12 => (if q12.1 ≤ x3 then ((f_X5_variablesIn n q12.2 x1).bind fun q87 => ((f_X4_add n q87.2 x1 q87.1).bind fun q90 => (some ((0 : Int32), (uF q90.2 24 q90.1))))) else ((f_X6_formulaAt n q12.2 x1 x3).bind fun q24 => ((f_X1_firstOf_F0 n q24.2 q24.1).bind fun q35 => ((f_X1_kindOf_F0 n q35.2 q24.1).bind fun q46 => (if q46.1 = (5 : Int32) then ((f_X1_kindOf_F0 n q46.2 q35.1).bind fun q59 => (if q59.1 = (5 : Int32) then ((f_X5_beginNested n q59.2 x1 x3).bind fun q69 => (some (q69.1, q69.2))) else (f_X5_tryNested_6 n k q59.2 x1 (x3 + (1 : Int32))))) else (f_X5_tryNested_6 n k q46.2 x1 (x3 + (1 : Int32))))))))
def f_X5_tryNested (n : Nat) (st : StT) (x1 : Int32) (x2 : Int32) : Option (Int32 × StT) := f_X5_tryNested_6 n n st x1 (if x2 < (0 : Int32) then (0 : Int32) else x2)
theorem wd202 : Cond.methodLink RX5 101 yJ9_max_7cf53 ∈ Gw := gT4 (List.mem_of_getElem? (i := 95) rfl) rfl
theorem wd203 : Cond.methodLink RX5 198 yX4_add ∈ Gw := gT4 (List.mem_of_getElem? (i := 203) rfl) rfl
theorem wd204 : Cond.code yX4_add prog_6_method_6_code 6 (some .int) ∈ Gw := gT4 (List.mem_of_getElem? (i := 206) rfl) rfl
theorem wd205 : Cond.instanceMethod yX4_add ∈ Gw := gT4 (List.mem_of_getElem? (i := 204) rfl) rfl
theorem wd206 : Cond.selects RX4 yX4_add yX4_add ∈ Gw := gT4 (List.mem_of_getElem? (i := 205) rfl) rfl
theorem wd207 : Cond.methodLink RX5 167 yX5_variablesIn ∈ Gw := gT4 (List.mem_of_getElem? (i := 154) rfl) rfl
theorem wd208 : Cond.code yX5_variablesIn prog_7_method_10_code 5 (some .int) ∈ Gw := gT4 (List.mem_of_getElem? (i := 157) rfl) rfl
theorem wd209 : Cond.instanceMethod yX5_variablesIn ∈ Gw := gT4 (List.mem_of_getElem? (i := 156) rfl) rfl
theorem wd210 : Cond.selects RX5 yX5_variablesIn yX5_variablesIn ∈ Gw := gP3 (q := (yX5_variablesIn, 14)) (List.mem_of_getElem? (i := 1) rfl)
theorem wd211 : Cond.methodLink RX5 195 yX5_beginNested ∈ Gw := gT4 (List.mem_of_getElem? (i := 199) rfl) rfl
theorem wd212 : Cond.code yX5_beginNested prog_7_method_18_code 9 (some .int) ∈ Gw := gT4 (List.mem_of_getElem? (i := 202) rfl) rfl
theorem wd213 : Cond.instanceMethod yX5_beginNested ∈ Gw := gT4 (List.mem_of_getElem? (i := 201) rfl) rfl
theorem wd214 : Cond.selects RX5 yX5_beginNested yX5_beginNested ∈ Gw := gP3 (q := (yX5_beginNested, 14)) (List.mem_of_getElem? (i := 8) rfl)
section
variable {p : Program} {l : Launch} {e : Env} {R : Room} {s : State} {m : MethodId} {args : Array Value} {below : List Frame} {meth : Method} {c : Code} {H : Heap} {locs : List Loc} {Q : State → Prop}
variable {cc : ByteArray} {nL pc : Nat} {ls : Array Slot} {rest : List Value} {D : va_G} {A : Nat → Prop} {cw : Cond} {ad : Nat → Nat} {cy : Nat → ClassId} {ee : EE} {st : StT} {own : String}
theorem krX5_198_X4_add {n : Nat} {a0 : Int32} {a1 : Int32} {q : (Int32 × StT)} (F : CallFix p m c cc nL s args (cw :: Gw) RX5) (K : va_K D vwCl (tyL cy) s) (E : EV ee A s s.heap) (hA : ∀ q, s.heap.size ≤ q → A q) (Z : ZG D (wC ad cy st) A s H locs) (hf : f_X4_add n st a0 a1 = some q) (hR : 2 ≤ R.frames ∧ 46 ≤ R.locals) (hl : ls.size = nL) (hst : (rest.map fun v => v.category).sum ≤ 8) (hd : decode cc pc = .ok (.invokevirtual 198, 3)) (kk : ∀ (H1 : Heap) (locs1 : List Loc), ZG D (wC ad cy q.2) A s H1 locs1 → W p l e R s m args below meth c H1 locs1 0 0 Q (F0 m (pc + 3) ls (.int q.1 :: rest))) : W p l e R s m args below meth c H locs 0 0 Q (F0 m pc ls (.int a1 :: .int a0 :: .ref (ad 35) :: rest)) :=
  call_V (q := (RX4, TX4, 7)) (n := 2) (As := [.int a0, .int a1]) (rv := some (.int q.1)) 35 4 F K E hA Z (c_X4_add (l := l) (D := D) (ad := ad) (cy := cy) (ee := ee) hf) ⟨wd204, wd203, wd205, wd206, wd108⟩ (by decide +kernel) rfl rfl hR rfl hl hst hd kk
theorem krX5_167_X5_variablesIn {n : Nat} {a0 : Int32} {q : (Int32 × StT)} (F : CallFix p m c cc nL s args (cw :: Gw) RX5) (K : va_K D vwCl (tyL cy) s) (E : EV ee A s s.heap) (hA : ∀ q, s.heap.size ≤ q → A q) (Z : ZG D (wC ad cy st) A s H locs) (hf : f_X5_variablesIn n st a0 = some q) (hR : 3 ≤ R.frames ∧ 68 ≤ R.locals) (hl : ls.size = nL) (hst : (rest.map fun v => v.category).sum ≤ 8) (hd : decode cc pc = .ok (.invokevirtual 167, 3)) (kk : ∀ (H1 : Heap) (locs1 : List Loc), ZG D (wC ad cy q.2) A s H1 locs1 → W p l e R s m args below meth c H1 locs1 0 0 Q (F0 m (pc + 3) ls (.int q.1 :: rest))) : W p l e R s m args below meth c H locs 0 0 Q (F0 m pc ls (.int a0 :: .ref (ad 23) :: rest)) :=
  call_V (q := (RX5, TX5, 14)) (n := 1) (As := [.int a0]) (rv := some (.int q.1)) 23 5 F K E hA Z (c_X5_variablesIn (l := l) (D := D) (ad := ad) (cy := cy) (ee := ee) hf) ⟨wd208, wd207, wd209, wd210, wd141⟩ (by decide +kernel) rfl rfl hR rfl hl hst hd kk
theorem krX5_195_X5_beginNested {n : Nat} {a0 : Int32} {a1 : Int32} {q : (Int32 × StT)} (F : CallFix p m c cc nL s args (cw :: Gw) RX5) (K : va_K D vwCl (tyL cy) s) (E : EV ee A s s.heap) (hA : ∀ q, s.heap.size ≤ q → A q) (Z : ZG D (wC ad cy st) A s H locs) (hf : f_X5_beginNested n st a0 a1 = some q) (hR : 4 ≤ R.frames ∧ 96 ≤ R.locals) (hl : ls.size = nL) (hst : (rest.map fun v => v.category).sum ≤ 8) (hd : decode cc pc = .ok (.invokevirtual 195, 3)) (kk : ∀ (H1 : Heap) (locs1 : List Loc), ZG D (wC ad cy q.2) A s H1 locs1 → W p l e R s m args below meth c H1 locs1 0 0 Q (F0 m (pc + 3) ls (.int q.1 :: rest))) : W p l e R s m args below meth c H locs 0 0 Q (F0 m pc ls (.int a1 :: .int a0 :: .ref (ad 23) :: rest)) :=
  call_V (q := (RX5, TX5, 14)) (n := 2) (As := [.int a0, .int a1]) (rv := some (.int q.1)) 23 5 F K E hA Z (c_X5_beginNested (l := l) (D := D) (ad := ad) (cy := cy) (ee := ee) hf) ⟨wd212, wd211, wd213, wd214, wd141⟩ (by decide +kernel) rfl rfl hR rfl hl hst hd kk
end
set_option maxRecDepth 100000 in
set_option maxHeartbeats 4000000 in
theorem b_X5_tryNested_6 {p : Program} {l : Launch} {e : Env} {s : State} {m : MethodId} {args : Array Value} {below : List Frame} {meth : Method} {c : Code} {D : va_G} {A : Nat → Prop} {ad : Nat → Nat} {cy : Nat → ClassId} {ee : EE} {n : Nat} {res : (Int32 × StT)} (F : CallFix p m c cX5_tryNested 6 s args (Cond.code yX5_tryNested cX5_tryNested 6 (some .int) :: Gw) yX5_tryNested.cls) (hr : meth.sig.returnType = (some .int)) (hk : meth.locks = false) (K : va_K D vwCl (tyL cy) s) (E : EV ee A s s.heap) (hA : ∀ q, s.heap.size ≤ q → A q) : ∀ (k : Nat) (st : StT) (x1 : Int32) (x3 : Int32), f_X5_tryNested_6 n k st x1 x3 = some res → ∀ (H : Heap) (locs : List Loc) (ls : Array Slot), ZG D (wC ad cy st) A s H locs → lv_has ls 6 [(0, .ref (ad 23)), (1, .int x1), (3, .int x3)] → W p l e { frames := 4, cells := 0, slots := 0, locals := 96 } s m args below meth c H locs 0 0 (MQ below (QC D (some (.int res.1)) (wC ad cy res.2) A) args s 0 0 A) (F0 m 6 ls []) := by
  have hx := F.1
  have hb := F.2.1
  intro k
  induction k with
  | zero =>
    intro st x1 x3 hf
    exact absurd hf (by simp [f_X5_tryNested_6])
  | succ k ih =>
    intro st x1 x3 hf H locs ls Z hl
    rw [f_X5_tryNested_6] at hf
    refine lv_iload_n hx hb dX5_tryNested_6 rfl (lv_at hl 2 rfl) ?_
    refine lv_aload_n hx hb dX5_tryNested_7 rfl (lv_at hl 0 rfl) ?_
    refine grX5_23_23 F K Z dX5_tryNested_8 ?_
    refine lv_iload_n hx hb dX5_tryNested_11 rfl (lv_at hl 1 rfl) ?_
    obtain ⟨q12, h12, hf⟩ := bind_some hf
    refine krX5_161_X6_sizeOf F K E hA Z h12 ⟨Nat.le_of_ble_eq_true rfl, Nat.le_of_ble_eq_true rfl⟩ hl.1 (Nat.le_of_ble_eq_true rfl) dX5_tryNested_12 (fun H locs Z => ?_)
    refine lv_icmp_ge (tgt := 79) hx hb dX5_tryNested_15 (by decide) (fun c15 => ?_) (fun c15 => ?_)
    · have hf := if_t c15 hf
      refine lv_aload_n hx hb dX5_tryNested_79 rfl (lv_at hl 0 rfl) ?_
      refine lv_aload_n hx hb dX5_tryNested_80 rfl (lv_at hl 0 rfl) ?_
      refine grX5_30_23 F K Z dX5_tryNested_81 ?_
      refine lv_iload_n hx hb dX5_tryNested_84 rfl (lv_at hl 1 rfl) ?_
      refine lv_aload_n hx hb dX5_tryNested_85 rfl (lv_at hl 0 rfl) ?_
      refine lv_iload_n hx hb dX5_tryNested_86 rfl (lv_at hl 1 rfl) ?_
      obtain ⟨q87, h87, hf⟩ := bind_some hf
      refine krX5_167_X5_variablesIn F K E hA Z h87 ⟨Nat.le_of_ble_eq_true rfl, Nat.le_of_ble_eq_true rfl⟩ hl.1 (Nat.le_of_ble_eq_true rfl) dX5_tryNested_87 (fun H locs Z => ?_)
      obtain ⟨q90, h90, hf⟩ := bind_some hf
      refine krX5_198_X4_add F K E hA Z h90 ⟨Nat.le_of_ble_eq_true rfl, Nat.le_of_ble_eq_true rfl⟩ hl.1 (Nat.le_of_ble_eq_true rfl) dX5_tryNested_90 (fun H locs Z => ?_)
      refine prX5_51_23 F K Z dX5_tryNested_93 (fun H locs Z => ?_)
      refine lv_iconst (v := 0) hx hb dX5_tryNested_96 (by decide) ?_
      have hf := Option.some.inj hf
      subst hf
      exact ret_i F hr hk Z dX5_tryNested_97
    have hf := if_f c15 hf
    refine lv_aload_n hx hb dX5_tryNested_18 rfl (lv_at hl 0 rfl) ?_
    refine grX5_23_23 F K Z dX5_tryNested_19 ?_
    refine lv_iload_n hx hb dX5_tryNested_22 rfl (lv_at hl 1 rfl) ?_
    refine lv_iload_n hx hb dX5_tryNested_23 rfl (lv_at hl 2 rfl) ?_
    obtain ⟨q24, h24, hf⟩ := bind_some hf
    refine krX5_164_X6_formulaAt F K E hA Z h24 ⟨Nat.le_of_ble_eq_true rfl, Nat.le_of_ble_eq_true rfl⟩ hl.1 (Nat.le_of_ble_eq_true rfl) dX5_tryNested_24 (fun H locs Z => ?_)
    refine lv_istore (lv' := [(4, .int q24.1), (0, .ref (ad 23)), (1, .int x1), (3, .int x3)]) hx hb dX5_tryNested_27 hl (by decide) rfl (fun ls hl => ?_)
    refine lv_aload_n hx hb dX5_tryNested_29 rfl (lv_at hl 1 rfl) ?_
    refine grX5_54_23 F K Z dX5_tryNested_30 ?_
    refine lv_iload hx hb dX5_tryNested_33 (lv_at hl 0 rfl) ?_
    obtain ⟨q35, h35, hf⟩ := bind_some hf
    refine krX5_134_X1_firstOf_F0 F K E hA Z h35 ⟨Nat.le_of_ble_eq_true rfl, Nat.le_of_ble_eq_true rfl⟩ hl.1 (Nat.le_of_ble_eq_true rfl) dX5_tryNested_35 (fun H locs Z => ?_)
    refine lv_istore (lv' := [(5, .int q35.1), (4, .int q24.1), (0, .ref (ad 23)), (1, .int x1), (3, .int x3)]) hx hb dX5_tryNested_38 hl (by decide) rfl (fun ls hl => ?_)
    refine lv_aload_n hx hb dX5_tryNested_40 rfl (lv_at hl 2 rfl) ?_
    refine grX5_54_23 F K Z dX5_tryNested_41 ?_
    refine lv_iload hx hb dX5_tryNested_44 (lv_at hl 1 rfl) ?_
    obtain ⟨q46, h46, hf⟩ := bind_some hf
    refine krX5_126_X1_kindOf_F0 F K E hA Z h46 ⟨Nat.le_of_ble_eq_true rfl, Nat.le_of_ble_eq_true rfl⟩ hl.1 (Nat.le_of_ble_eq_true rfl) dX5_tryNested_46 (fun H locs Z => ?_)
    refine lv_iconst (v := 5) hx hb dX5_tryNested_49 (by decide) ?_
    refine lv_icmp_ne (tgt := 73) hx hb dX5_tryNested_50 (by decide) (fun c50 => ?_) (fun c50 => ?_)
    · have hf := if_f c50 hf
      refine lv_iinc (v := (x3 + (1 : Int32))) (lv' := [(3, .int (x3 + (1 : Int32))), (5, .int q35.1), (4, .int q24.1), (0, .ref (ad 23)), (1, .int x1)]) hx hb dX5_tryNested_73 hl (k := 4) rfl (congrArg (fun z => x3 + z) (by decide)) (by decide) rfl (fun ls hl => ?_)
      refine lv_goto (tgt := 6) hx hb dX5_tryNested_76 (by decide) ?_
      exact ih _ _ _ hf _ _ _ Z (lv_sub hl [3, 4, 0] rfl)
    have hf := if_t c50 hf
    refine lv_aload_n hx hb dX5_tryNested_53 rfl (lv_at hl 2 rfl) ?_
    refine grX5_54_23 F K Z dX5_tryNested_54 ?_
    refine lv_iload hx hb dX5_tryNested_57 (lv_at hl 0 rfl) ?_
    obtain ⟨q59, h59, hf⟩ := bind_some hf
    refine krX5_126_X1_kindOf_F0 F K E hA Z h59 ⟨Nat.le_of_ble_eq_true rfl, Nat.le_of_ble_eq_true rfl⟩ hl.1 (Nat.le_of_ble_eq_true rfl) dX5_tryNested_59 (fun H locs Z => ?_)
    refine lv_iconst (v := 5) hx hb dX5_tryNested_62 (by decide) ?_
    refine lv_icmp_ne (tgt := 73) hx hb dX5_tryNested_63 (by decide) (fun c63 => ?_) (fun c63 => ?_)
    · have hf := if_f c63 hf
      refine lv_iinc (v := (x3 + (1 : Int32))) (lv' := [(3, .int (x3 + (1 : Int32))), (5, .int q35.1), (4, .int q24.1), (0, .ref (ad 23)), (1, .int x1)]) hx hb dX5_tryNested_73 hl (k := 4) rfl (congrArg (fun z => x3 + z) (by decide)) (by decide) rfl (fun ls hl => ?_)
      refine lv_goto (tgt := 6) hx hb dX5_tryNested_76 (by decide) ?_
      exact ih _ _ _ hf _ _ _ Z (lv_sub hl [3, 4, 0] rfl)
    have hf := if_t c63 hf
    refine lv_aload_n hx hb dX5_tryNested_66 rfl (lv_at hl 2 rfl) ?_
    refine lv_iload_n hx hb dX5_tryNested_67 rfl (lv_at hl 3 rfl) ?_
    refine lv_iload_n hx hb dX5_tryNested_68 rfl (lv_at hl 4 rfl) ?_
    obtain ⟨q69, h69, hf⟩ := bind_some hf
    refine krX5_195_X5_beginNested F K E hA Z h69 ⟨Nat.le_of_ble_eq_true rfl, Nat.le_of_ble_eq_true rfl⟩ hl.1 (Nat.le_of_ble_eq_true rfl) dX5_tryNested_69 (fun H locs Z => ?_)
    have hf := Option.some.inj hf
    subst hf
    exact ret_i F hr hk Z dX5_tryNested_72
set_option maxRecDepth 100000 in
set_option maxHeartbeats 4000000 in
theorem c_X5_tryNested {l : Launch} {D : va_G} {ad : Nat → Nat} {cy : Nat → ClassId} {ee : EE} {n : Nat} {st : StT} {x1 : Int32} {x2 : Int32} {res : (Int32 × StT)} (hf : f_X5_tryNested n st x1 x2 = some res) : CT l yX5_tryNested cX5_tryNested 6 (some .int) 4 96 D cy ee (wC ad cy st) (wC ad cy res.2) [.ref (ad 23), .int x1, .int x2] (some (.int res.1)) := by
  refine CT.of (by decide +kernel) (Nat.le_of_ble_eq_true rfl) ?_
  intro p e s m args below meth c A F hr hk K E hA Z ls hl
  have hl : lv_has ls 6 [(0, .ref (ad 23)), (1, .int x1), (2, .int x2)] := hl
  have hx := F.1
  have hb := F.2.1
  unfold f_X5_tryNested at hf
  refine lv_iload_n hx hb dX5_tryNested_0 rfl (lv_at hl 2 rfl) ?_
  refine lv_iconst (v := 0) hx hb dX5_tryNested_1 (by decide) ?_
  refine mth_max F (F.2.2.2.2 _ (List.mem_cons_of_mem _ wd202)) hl.1 (Nat.le_of_ble_eq_true rfl) (Nat.le_of_ble_eq_true rfl) dX5_tryNested_2 ?_
  refine lv_istore_n (lv' := [(3, .int (if x2 < (0 : Int32) then (0 : Int32) else x2)), (0, .ref (ad 23)), (1, .int x1), (2, .int x2)]) hx hb dX5_tryNested_5 rfl hl (by decide) rfl (fun ls hl => ?_)
  exact b_X5_tryNested_6 F hr hk K E hA _ _ _ _ hf _ _ _ Z (lv_sub hl [1, 2, 0] rfl)
def f_X5_kept_43 (n : Nat) (st : StT) (x1 : Int32) : Option (Int32 × StT) := if x1 < 0 then (some ((-1 : Int32), st)) else (if (200 : Int32) ≤ x1 then (some ((-1 : Int32), st)) else (if inB x1 200 = true then (some ((st.2.1 32 (x1).toNatClampNeg), st)) else none))
section
variable {p : Program} {l : Launch} {e : Env} {R : Room} {s : State} {m : MethodId} {args : Array Value} {below : List Frame} {meth : Method} {c : Code} {H : Heap} {locs : List Loc} {Q : State → Prop}
variable {cc : ByteArray} {nL pc : Nat} {ls : Array Slot} {rest : List Value} {D : va_G} {A : Nat → Prop} {cw : Cond} {ad : Nat → Nat} {cy : Nat → ClassId} {ee : EE} {st : StT} {own : String}
theorem al43 {i : Int32} (F : CallFix p m c cc nL s args (cw :: Gw) own) (K : va_K D vwCl (tyL cy) s) (Z : ZG D (wC ad cy st) A s H locs) (hi : inB i 200 = true) (hd : decode cc pc = .ok (.iaload, 1)) (kk : W p l e R s m args below meth c H locs 0 0 Q (F0 m (pc + 1) ls (.int (st.2.1 32 i.toNatClampNeg) :: rest))) : W p l e R s m args below meth c H locs 0 0 Q (F0 m pc ls (.int i :: .ref (ad 43) :: rest)) :=
  va_iald F.1 F.2.1 K Z.1 43 1 rfl rfl (inB_vp hi) hd kk
end
set_option maxRecDepth 100000 in
set_option maxHeartbeats 4000000 in
theorem c_X5_kept_43 {l : Launch} {D : va_G} {ad : Nat → Nat} {cy : Nat → ClassId} {ee : EE} {n : Nat} {st : StT} {x1 : Int32} {res : (Int32 × StT)} (hf : f_X5_kept_43 n st x1 = some res) : CT l yX5_kept cX5_kept 2 (some .int) 0 0 D cy ee (wC ad cy st) (wC ad cy res.2) [.ref (ad 43), .int x1] (some (.int res.1)) := by
  refine CT.of (by decide +kernel) (Nat.le_of_ble_eq_true rfl) ?_
  intro p e s m args below meth c A F hr hk K E hA Z ls hl
  have hl : lv_has ls 2 [(0, .ref (ad 43)), (1, .int x1)] := hl
  have hx := F.1
  have hb := F.2.1
  unfold f_X5_kept_43 at hf
  refine lv_iload_n hx hb dX5_kept_0 rfl (lv_at hl 1 rfl) ?_
  refine lv_if_lt (tgt := 16) hx hb dX5_kept_1 (by decide) (fun c1 => ?_) (fun c1 => ?_)
  · have hf := if_t c1 hf
    refine lv_iconst (v := -1) hx hb dX5_kept_16 (by decide) ?_
    have hf := Option.some.inj hf
    subst hf
    exact ret_i F hr hk Z dX5_kept_17
  have hf := if_f c1 hf
  refine lv_iload_n hx hb dX5_kept_4 rfl (lv_at hl 1 rfl) ?_
  refine lv_aload_n hx hb dX5_kept_5 rfl (lv_at hl 0 rfl) ?_
  refine an43 F K Z dX5_kept_6 ?_
  refine lv_icmp_ge (tgt := 16) hx hb dX5_kept_7 (by decide) (fun c7 => ?_) (fun c7 => ?_)
  · have hf := if_t c7 hf
    refine lv_iconst (v := -1) hx hb dX5_kept_16 (by decide) ?_
    have hf := Option.some.inj hf
    subst hf
    exact ret_i F hr hk Z dX5_kept_17
  have hf := if_f c7 hf
  refine lv_aload_n hx hb dX5_kept_10 rfl (lv_at hl 0 rfl) ?_
  refine lv_iload_n hx hb dX5_kept_11 rfl (lv_at hl 1 rfl) ?_
  obtain ⟨i12, hf⟩ := if_some hf
  refine al43 F K Z i12 dX5_kept_12 ?_
  refine lv_goto (tgt := 17) hx hb dX5_kept_13 (by decide) ?_
  have hf := Option.some.inj hf
  subst hf
  exact ret_i F hr hk Z dX5_kept_17
def f_X5_goOnFailed (n : Nat) (st : StT) (x1 : Int32) : Option (Int32 × StT) := (f_X5_kept_42 n st x1).bind fun q5 => (if q5.1 = 6 then ((f_X4_adopt n q5.2 x1 (q5.2.1 24)).bind fun q45 => ((f_X6_goalOf n q45 x1).bind fun q63 => ((f_X1_secondOf_F0 n q63.2 q63.1).bind fun q66 => ((f_X6_follow n q66.2 x1 (-1 : Int32) q66.1).bind fun q69 => ((f_X5_waitFor n q69 x1 (7 : Int32)).bind fun q76 => (some (q76.1, q76.2))))))) else (if q5.1 = 7 then ((f_X4_adopt n q5.2 x1 (q5.2.1 24)).bind fun q89 => ((f_X5_tryNested n q89 x1 (0 : Int32)).bind fun q95 => (some (q95.1, q95.2)))) else (if q5.1 = 8 then ((f_X4_adopt n q5.2 x1 (q5.2.1 24)).bind fun q108 => ((f_X5_kept_43 n q108 x1).bind fun q118 => ((f_X5_tryNested n q118.2 x1 (q118.1 + (1 : Int32))).bind fun q123 => (some (q123.1, q123.2))))) else (some ((0 : Int32), q5.2)))))
theorem wd215 : Cond.methodLink RX5 107 yX6_goalOf ∈ Gw := gT4 (List.mem_of_getElem? (i := 100) rfl) rfl
theorem wd216 : Cond.code yX6_goalOf prog_8_method_5_code 2 (some .int) ∈ Gw := gT4 (List.mem_of_getElem? (i := 103) rfl) rfl
theorem wd217 : Cond.instanceMethod yX6_goalOf ∈ Gw := gT4 (List.mem_of_getElem? (i := 101) rfl) rfl
theorem wd218 : Cond.selects RX6 yX6_goalOf yX6_goalOf ∈ Gw := gT4 (List.mem_of_getElem? (i := 102) rfl) rfl
theorem wd219 : Cond.methodLink RX5 210 yX4_adopt ∈ Gw := gT4 (List.mem_of_getElem? (i := 228) rfl) rfl
theorem wd220 : Cond.code yX4_adopt prog_6_method_5_code 3 none ∈ Gw := gT4 (List.mem_of_getElem? (i := 231) rfl) rfl
theorem wd221 : Cond.instanceMethod yX4_adopt ∈ Gw := gT4 (List.mem_of_getElem? (i := 229) rfl) rfl
theorem wd222 : Cond.selects RX4 yX4_adopt yX4_adopt ∈ Gw := gT4 (List.mem_of_getElem? (i := 230) rfl) rfl
theorem wd223 : Cond.methodLink RX5 147 yX5_tryNested ∈ Gw := gT4 (List.mem_of_getElem? (i := 195) rfl) rfl
theorem wd224 : Cond.code yX5_tryNested prog_7_method_17_code 6 (some .int) ∈ Gw := gT4 (List.mem_of_getElem? (i := 198) rfl) rfl
theorem wd225 : Cond.instanceMethod yX5_tryNested ∈ Gw := gT4 (List.mem_of_getElem? (i := 197) rfl) rfl
theorem wd226 : Cond.selects RX5 yX5_tryNested yX5_tryNested ∈ Gw := gP3 (q := (yX5_tryNested, 14)) (List.mem_of_getElem? (i := 7) rfl)
section
variable {p : Program} {l : Launch} {e : Env} {R : Room} {s : State} {m : MethodId} {args : Array Value} {below : List Frame} {meth : Method} {c : Code} {H : Heap} {locs : List Loc} {Q : State → Prop}
variable {cc : ByteArray} {nL pc : Nat} {ls : Array Slot} {rest : List Value} {D : va_G} {A : Nat → Prop} {cw : Cond} {ad : Nat → Nat} {cy : Nat → ClassId} {ee : EE} {st : StT} {own : String}
theorem krX5_107_X6_goalOf {n : Nat} {a0 : Int32} {q : (Int32 × StT)} (F : CallFix p m c cc nL s args (cw :: Gw) RX5) (K : va_K D vwCl (tyL cy) s) (E : EV ee A s s.heap) (hA : ∀ q, s.heap.size ≤ q → A q) (Z : ZG D (wC ad cy st) A s H locs) (hf : f_X6_goalOf n st a0 = some q) (hR : 2 ≤ R.frames ∧ 41 ≤ R.locals) (hl : ls.size = nL) (hst : (rest.map fun v => v.category).sum ≤ 8) (hd : decode cc pc = .ok (.invokevirtual 107, 3)) (kk : ∀ (H1 : Heap) (locs1 : List Loc), ZG D (wC ad cy q.2) A s H1 locs1 → W p l e R s m args below meth c H1 locs1 0 0 Q (F0 m (pc + 3) ls (.int q.1 :: rest))) : W p l e R s m args below meth c H locs 0 0 Q (F0 m pc ls (.int a0 :: .ref (ad 30) :: rest)) :=
  call_V (q := (RX6, TX6, 5)) (n := 1) (As := [.int a0]) (rv := some (.int q.1)) 30 6 F K E hA Z (c_X6_goalOf (l := l) (D := D) (ad := ad) (cy := cy) (ee := ee) hf) ⟨wd216, wd215, wd217, wd218, wd78⟩ (by decide +kernel) rfl rfl hR rfl hl hst hd kk
theorem krX5_210_X4_adopt {n : Nat} {a0 : Int32} {a1 : Int32} {q : StT} (F : CallFix p m c cc nL s args (cw :: Gw) RX5) (K : va_K D vwCl (tyL cy) s) (E : EV ee A s s.heap) (hA : ∀ q, s.heap.size ≤ q → A q) (Z : ZG D (wC ad cy st) A s H locs) (hf : f_X4_adopt n st a0 a1 = some q) (hR : 2 ≤ R.frames ∧ 43 ≤ R.locals) (hl : ls.size = nL) (hst : (rest.map fun v => v.category).sum ≤ 8) (hd : decode cc pc = .ok (.invokevirtual 210, 3)) (kk : ∀ (H1 : Heap) (locs1 : List Loc), ZG D (wC ad cy q) A s H1 locs1 → W p l e R s m args below meth c H1 locs1 0 0 Q (F0 m (pc + 3) ls (rest))) : W p l e R s m args below meth c H locs 0 0 Q (F0 m pc ls (.int a1 :: .int a0 :: .ref (ad 35) :: rest)) :=
  call_V (q := (RX4, TX4, 7)) (n := 2) (As := [.int a0, .int a1]) (rv := none) 35 4 F K E hA Z (c_X4_adopt (l := l) (D := D) (ad := ad) (cy := cy) (ee := ee) hf) ⟨wd220, wd219, wd221, wd222, wd108⟩ (by decide +kernel) rfl rfl hR rfl hl hst hd kk
theorem krX5_147_X5_tryNested {n : Nat} {a0 : Int32} {a1 : Int32} {q : (Int32 × StT)} (F : CallFix p m c cc nL s args (cw :: Gw) RX5) (K : va_K D vwCl (tyL cy) s) (E : EV ee A s s.heap) (hA : ∀ q, s.heap.size ≤ q → A q) (Z : ZG D (wC ad cy st) A s H locs) (hf : f_X5_tryNested n st a0 a1 = some q) (hR : 5 ≤ R.frames ∧ 121 ≤ R.locals) (hl : ls.size = nL) (hst : (rest.map fun v => v.category).sum ≤ 8) (hd : decode cc pc = .ok (.invokevirtual 147, 3)) (kk : ∀ (H1 : Heap) (locs1 : List Loc), ZG D (wC ad cy q.2) A s H1 locs1 → W p l e R s m args below meth c H1 locs1 0 0 Q (F0 m (pc + 3) ls (.int q.1 :: rest))) : W p l e R s m args below meth c H locs 0 0 Q (F0 m pc ls (.int a1 :: .int a0 :: .ref (ad 23) :: rest)) :=
  call_V (q := (RX5, TX5, 14)) (n := 2) (As := [.int a0, .int a1]) (rv := some (.int q.1)) 23 5 F K E hA Z (c_X5_tryNested (l := l) (D := D) (ad := ad) (cy := cy) (ee := ee) hf) ⟨wd224, wd223, wd225, wd226, wd141⟩ (by decide +kernel) rfl rfl hR rfl hl hst hd kk
theorem krX5_153_X5_kept_43 {n : Nat} {a1 : Int32} {q : (Int32 × StT)} (F : CallFix p m c cc nL s args (cw :: Gw) RX5) (K : va_K D vwCl (tyL cy) s) (E : EV ee A s s.heap) (hA : ∀ q, s.heap.size ≤ q → A q) (Z : ZG D (wC ad cy st) A s H locs) (hf : f_X5_kept_43 n st a1 = some q) (hR : 1 ≤ R.frames ∧ 21 ≤ R.locals) (hl : ls.size = nL) (hst : (rest.map fun v => v.category).sum ≤ 8) (hd : decode cc pc = .ok (.invokestatic 153, 3)) (kk : ∀ (H1 : Heap) (locs1 : List Loc), ZG D (wC ad cy q.2) A s H1 locs1 → W p l e R s m args below meth c H1 locs1 0 0 Q (F0 m (pc + 3) ls (.int q.1 :: rest))) : W p l e R s m args below meth c H locs 0 0 Q (F0 m pc ls (.int a1 :: .ref (ad 43) :: rest)) :=
  call_S (n := 2) (As := [.ref (ad 43), .int a1]) (rv := some (.int q.1)) F K E hA Z (c_X5_kept_43 (l := l) (D := D) (ad := ad) (cy := cy) (ee := ee) hf) ⟨wd172, wd171, wd173, wd141⟩ (by decide +kernel) hR rfl hl hst hd kk
theorem krX5_153_X5_kept_42 {n : Nat} {a1 : Int32} {q : (Int32 × StT)} (F : CallFix p m c cc nL s args (cw :: Gw) RX5) (K : va_K D vwCl (tyL cy) s) (E : EV ee A s s.heap) (hA : ∀ q, s.heap.size ≤ q → A q) (Z : ZG D (wC ad cy st) A s H locs) (hf : f_X5_kept_42 n st a1 = some q) (hR : 1 ≤ R.frames ∧ 21 ≤ R.locals) (hl : ls.size = nL) (hst : (rest.map fun v => v.category).sum ≤ 8) (hd : decode cc pc = .ok (.invokestatic 153, 3)) (kk : ∀ (H1 : Heap) (locs1 : List Loc), ZG D (wC ad cy q.2) A s H1 locs1 → W p l e R s m args below meth c H1 locs1 0 0 Q (F0 m (pc + 3) ls (.int q.1 :: rest))) : W p l e R s m args below meth c H locs 0 0 Q (F0 m pc ls (.int a1 :: .ref (ad 42) :: rest)) :=
  call_S (n := 2) (As := [.ref (ad 42), .int a1]) (rv := some (.int q.1)) F K E hA Z (c_X5_kept_42 (l := l) (D := D) (ad := ad) (cy := cy) (ee := ee) hf) ⟨wd172, wd171, wd173, wd141⟩ (by decide +kernel) hR rfl hl hst hd kk
end
set_option maxRecDepth 100000 in
set_option maxHeartbeats 4000000 in
theorem c_X5_goOnFailed {l : Launch} {D : va_G} {ad : Nat → Nat} {cy : Nat → ClassId} {ee : EE} {n : Nat} {st : StT} {x1 : Int32} {res : (Int32 × StT)} (hf : f_X5_goOnFailed n st x1 = some res) : CT l yX5_goOnFailed cX5_goOnFailed 2 (some .int) 5 121 D cy ee (wC ad cy st) (wC ad cy res.2) [.ref (ad 23), .int x1] (some (.int res.1)) := by
  refine CT.of (by decide +kernel) (Nat.le_of_ble_eq_true rfl) ?_
  intro p e s m args below meth c A F hr hk K E hA Z ls hl
  have hl : lv_has ls 2 [(0, .ref (ad 23)), (1, .int x1)] := hl
  have hx := F.1
  have hb := F.2.1
  unfold f_X5_goOnFailed at hf
  refine lv_aload_n hx hb dX5_goOnFailed_0 rfl (lv_at hl 0 rfl) ?_
  refine grX5_34_23 F K Z dX5_goOnFailed_1 ?_
  refine lv_iload_n hx hb dX5_goOnFailed_4 rfl (lv_at hl 1 rfl) ?_
  obtain ⟨q5, h5, hf⟩ := bind_some hf
  refine krX5_153_X5_kept_42 F K E hA Z h5 ⟨Nat.le_of_ble_eq_true rfl, Nat.le_of_ble_eq_true rfl⟩ hl.1 (Nat.le_of_ble_eq_true rfl) dX5_goOnFailed_5 (fun H locs Z => ?_)
  by_cases c8_6 : q5.1 = 6
  · have hf := if_t c8_6 hf
    refine lv_tableIn (tgt := 36) hx hb dX5_goOnFailed_8 (by rw [c8_6] <;> decide) (by rw [c8_6] <;> decide) (by rw [c8_6] <;> rfl) (by decide) ?_
    refine lv_aload_n hx hb dX5_goOnFailed_36 rfl (lv_at hl 0 rfl) ?_
    refine grX5_30_23 F K Z dX5_goOnFailed_37 ?_
    refine lv_iload_n hx hb dX5_goOnFailed_40 rfl (lv_at hl 1 rfl) ?_
    refine lv_aload_n hx hb dX5_goOnFailed_41 rfl (lv_at hl 0 rfl) ?_
    refine grX5_51_23 F K Z dX5_goOnFailed_42 ?_
    obtain ⟨q45, h45, hf⟩ := bind_some hf
    refine krX5_210_X4_adopt F K E hA Z h45 ⟨Nat.le_of_ble_eq_true rfl, Nat.le_of_ble_eq_true rfl⟩ hl.1 (Nat.le_of_ble_eq_true rfl) dX5_goOnFailed_45 (fun H locs Z => ?_)
    refine lv_aload_n hx hb dX5_goOnFailed_48 rfl (lv_at hl 0 rfl) ?_
    refine grX5_23_23 F K Z dX5_goOnFailed_49 ?_
    refine lv_iload_n hx hb dX5_goOnFailed_52 rfl (lv_at hl 1 rfl) ?_
    refine lv_iconst (v := -1) hx hb dX5_goOnFailed_53 (by decide) ?_
    refine lv_aload_n hx hb dX5_goOnFailed_54 rfl (lv_at hl 0 rfl) ?_
    refine grX5_54_23 F K Z dX5_goOnFailed_55 ?_
    refine lv_aload_n hx hb dX5_goOnFailed_58 rfl (lv_at hl 0 rfl) ?_
    refine grX5_23_23 F K Z dX5_goOnFailed_59 ?_
    refine lv_iload_n hx hb dX5_goOnFailed_62 rfl (lv_at hl 1 rfl) ?_
    obtain ⟨q63, h63, hf⟩ := bind_some hf
    refine krX5_107_X6_goalOf F K E hA Z h63 ⟨Nat.le_of_ble_eq_true rfl, Nat.le_of_ble_eq_true rfl⟩ hl.1 (Nat.le_of_ble_eq_true rfl) dX5_goOnFailed_63 (fun H locs Z => ?_)
    obtain ⟨q66, h66, hf⟩ := bind_some hf
    refine krX5_150_X1_secondOf_F0 F K E hA Z h66 ⟨Nat.le_of_ble_eq_true rfl, Nat.le_of_ble_eq_true rfl⟩ hl.1 (Nat.le_of_ble_eq_true rfl) dX5_goOnFailed_66 (fun H locs Z => ?_)
    obtain ⟨q69, h69, hf⟩ := bind_some hf
    refine krX5_137_X6_follow F K E hA Z h69 ⟨Nat.le_of_ble_eq_true rfl, Nat.le_of_ble_eq_true rfl⟩ hl.1 (Nat.le_of_ble_eq_true rfl) dX5_goOnFailed_69 (fun H locs Z => ?_)
    refine lv_aload_n hx hb dX5_goOnFailed_72 rfl (lv_at hl 0 rfl) ?_
    refine lv_iload_n hx hb dX5_goOnFailed_73 rfl (lv_at hl 1 rfl) ?_
    refine lv_bipush (v := 7) hx hb dX5_goOnFailed_74 (by decide) ?_
    obtain ⟨q76, h76, hf⟩ := bind_some hf
    refine krX5_97_X5_waitFor F K E hA Z h76 ⟨Nat.le_of_ble_eq_true rfl, Nat.le_of_ble_eq_true rfl⟩ hl.1 (Nat.le_of_ble_eq_true rfl) dX5_goOnFailed_76 (fun H locs Z => ?_)
    have hf := Option.some.inj hf
    subst hf
    exact ret_i F hr hk Z dX5_goOnFailed_79
  have hf := if_f c8_6 hf
  by_cases c8_7 : q5.1 = 7
  · have hf := if_t c8_7 hf
    refine lv_tableIn (tgt := 80) hx hb dX5_goOnFailed_8 (by rw [c8_7] <;> decide) (by rw [c8_7] <;> decide) (by rw [c8_7] <;> rfl) (by decide) ?_
    refine lv_aload_n hx hb dX5_goOnFailed_80 rfl (lv_at hl 0 rfl) ?_
    refine grX5_30_23 F K Z dX5_goOnFailed_81 ?_
    refine lv_iload_n hx hb dX5_goOnFailed_84 rfl (lv_at hl 1 rfl) ?_
    refine lv_aload_n hx hb dX5_goOnFailed_85 rfl (lv_at hl 0 rfl) ?_
    refine grX5_51_23 F K Z dX5_goOnFailed_86 ?_
    obtain ⟨q89, h89, hf⟩ := bind_some hf
    refine krX5_210_X4_adopt F K E hA Z h89 ⟨Nat.le_of_ble_eq_true rfl, Nat.le_of_ble_eq_true rfl⟩ hl.1 (Nat.le_of_ble_eq_true rfl) dX5_goOnFailed_89 (fun H locs Z => ?_)
    refine lv_aload_n hx hb dX5_goOnFailed_92 rfl (lv_at hl 0 rfl) ?_
    refine lv_iload_n hx hb dX5_goOnFailed_93 rfl (lv_at hl 1 rfl) ?_
    refine lv_iconst (v := 0) hx hb dX5_goOnFailed_94 (by decide) ?_
    obtain ⟨q95, h95, hf⟩ := bind_some hf
    refine krX5_147_X5_tryNested F K E hA Z h95 ⟨Nat.le_of_ble_eq_true rfl, Nat.le_of_ble_eq_true rfl⟩ hl.1 (Nat.le_of_ble_eq_true rfl) dX5_goOnFailed_95 (fun H locs Z => ?_)
    have hf := Option.some.inj hf
    subst hf
    exact ret_i F hr hk Z dX5_goOnFailed_98
  have hf := if_f c8_7 hf
  by_cases c8_8 : q5.1 = 8
  · have hf := if_t c8_8 hf
    refine lv_tableIn (tgt := 99) hx hb dX5_goOnFailed_8 (by rw [c8_8] <;> decide) (by rw [c8_8] <;> decide) (by rw [c8_8] <;> rfl) (by decide) ?_
    refine lv_aload_n hx hb dX5_goOnFailed_99 rfl (lv_at hl 0 rfl) ?_
    refine grX5_30_23 F K Z dX5_goOnFailed_100 ?_
    refine lv_iload_n hx hb dX5_goOnFailed_103 rfl (lv_at hl 1 rfl) ?_
    refine lv_aload_n hx hb dX5_goOnFailed_104 rfl (lv_at hl 0 rfl) ?_
    refine grX5_51_23 F K Z dX5_goOnFailed_105 ?_
    obtain ⟨q108, h108, hf⟩ := bind_some hf
    refine krX5_210_X4_adopt F K E hA Z h108 ⟨Nat.le_of_ble_eq_true rfl, Nat.le_of_ble_eq_true rfl⟩ hl.1 (Nat.le_of_ble_eq_true rfl) dX5_goOnFailed_108 (fun H locs Z => ?_)
    refine lv_aload_n hx hb dX5_goOnFailed_111 rfl (lv_at hl 0 rfl) ?_
    refine lv_iload_n hx hb dX5_goOnFailed_112 rfl (lv_at hl 1 rfl) ?_
    refine lv_aload_n hx hb dX5_goOnFailed_113 rfl (lv_at hl 0 rfl) ?_
    refine grX5_38_23 F K Z dX5_goOnFailed_114 ?_
    refine lv_iload_n hx hb dX5_goOnFailed_117 rfl (lv_at hl 1 rfl) ?_
    obtain ⟨q118, h118, hf⟩ := bind_some hf
    refine krX5_153_X5_kept_43 F K E hA Z h118 ⟨Nat.le_of_ble_eq_true rfl, Nat.le_of_ble_eq_true rfl⟩ hl.1 (Nat.le_of_ble_eq_true rfl) dX5_goOnFailed_118 (fun H locs Z => ?_)
    refine lv_iconst (v := 1) hx hb dX5_goOnFailed_121 (by decide) ?_
    refine lv_iadd hx hb dX5_goOnFailed_122 ?_
    obtain ⟨q123, h123, hf⟩ := bind_some hf
    refine krX5_147_X5_tryNested F K E hA Z h123 ⟨Nat.le_of_ble_eq_true rfl, Nat.le_of_ble_eq_true rfl⟩ hl.1 (Nat.le_of_ble_eq_true rfl) dX5_goOnFailed_123 (fun H locs Z => ?_)
    have hf := Option.some.inj hf
    subst hf
    exact ret_i F hr hk Z dX5_goOnFailed_126
  have hf := if_f c8_8 hf
  refine sw_tab (tgt := 127) hx hb dX5_goOnFailed_8 (sw_any (fun j h1 h2 hj => ?_)) (by decide) ?_
  · rcases (show j = 6 ∨ j = 7 ∨ j = 8 by omega) with rfl | rfl | rfl
    · exact absurd hj (lv_neT c8_6 (by decide))
    · exact absurd hj (lv_neT c8_7 (by decide))
    · exact absurd hj (lv_neT c8_8 (by decide))
  refine lv_iconst (v := 0) hx hb dX5_goOnFailed_127 (by decide) ?_
  have hf := Option.some.inj hf
  subst hf
  exact ret_i F hr hk Z dX5_goOnFailed_128
def f_X5_provedBy (n : Nat) (st : StT) (x1 : Int32) : Option (Int32 × StT) := some ((1 : Int32), (uF st 24 x1))
theorem wd227 : Cond.fieldLink RX5 41 "WorldProver$Search" "helds" "[I" ∈ Gw := gT2 (List.mem_of_getElem? (i := 32) rfl) rfl
section
variable {p : Program} {l : Launch} {e : Env} {R : Room} {s : State} {m : MethodId} {args : Array Value} {below : List Frame} {meth : Method} {c : Code} {H : Heap} {locs : List Loc} {Q : State → Prop}
variable {cc : ByteArray} {nL pc : Nat} {ls : Array Slot} {rest : List Value} {D : va_G} {A : Nat → Prop} {cw : Cond} {ad : Nat → Nat} {cy : Nat → ClassId} {ee : EE} {st : StT} {own : String}
theorem grX5_41_23 (F : CallFix p m c cc nL s args (cw :: Gw) RX5) (K : va_K D vwCl (tyL cy) s) (Z : ZG D (wC ad cy st) A s H locs) (hd : decode cc pc = .ok (.getfield 41, 3)) (kk : W p l e R s m args below meth c H locs 0 0 Q (F0 m (pc + 3) ls (.ref (ad 44) :: rest))) : W p l e R s m args below meth c H locs 0 0 Q (F0 m pc ls (.ref (ad 23) :: rest)) :=
  va_get (D := D) (ci := 5) (C := RX5) (T := TX5) (N := 14) F.1 F.2.1 F.2.2.2.2 (fun w h => List.mem_cons_of_mem _ (inG_X5 w h)) F.2.2.2.1 K Z.1 23 rfl rfl 6 (by decide) (F.2.2.2.2 _ (List.mem_cons_of_mem _ wd227)) (fun _ h => h) rfl hd kk
end
set_option maxRecDepth 100000 in
set_option maxHeartbeats 4000000 in
theorem c_X5_provedBy {l : Launch} {D : va_G} {ad : Nat → Nat} {cy : Nat → ClassId} {ee : EE} {n : Nat} {st : StT} {x1 : Int32} {res : (Int32 × StT)} (hf : f_X5_provedBy n st x1 = some res) : CT l yX5_provedBy cX5_provedBy 2 (some .int) 0 0 D cy ee (wC ad cy st) (wC ad cy res.2) [.ref (ad 23), .int x1] (some (.int res.1)) := by
  refine CT.of (by decide +kernel) (Nat.le_of_ble_eq_true rfl) ?_
  intro p e s m args below meth c A F hr hk K E hA Z ls hl
  have hl : lv_has ls 2 [(0, .ref (ad 23)), (1, .int x1)] := hl
  have hx := F.1
  have hb := F.2.1
  unfold f_X5_provedBy at hf
  refine lv_aload_n hx hb dX5_provedBy_0 rfl (lv_at hl 0 rfl) ?_
  refine lv_iload_n hx hb dX5_provedBy_1 rfl (lv_at hl 1 rfl) ?_
  refine prX5_51_23 F K Z dX5_provedBy_2 (fun H locs Z => ?_)
  refine lv_iconst (v := 1) hx hb dX5_provedBy_5 (by decide) ?_
  have hf := Option.some.inj hf
  subst hf
  exact ret_i F hr hk Z dX5_provedBy_6
def f_X5_keep_44 (n : Nat) (st : StT) (x1 : Int32) (x2 : Int32) : Option StT := if x1 < 0 then (some st) else (if (200 : Int32) ≤ x1 then (some st) else (if inB x1 200 = true then (some (uA st 33 x1 x2)) else none))
section
variable {p : Program} {l : Launch} {e : Env} {R : Room} {s : State} {m : MethodId} {args : Array Value} {below : List Frame} {meth : Method} {c : Code} {H : Heap} {locs : List Loc} {Q : State → Prop}
variable {cc : ByteArray} {nL pc : Nat} {ls : Array Slot} {rest : List Value} {D : va_G} {A : Nat → Prop} {cw : Cond} {ad : Nat → Nat} {cy : Nat → ClassId} {ee : EE} {st : StT} {own : String}
theorem an44 (F : CallFix p m c cc nL s args (cw :: Gw) own) (K : va_K D vwCl (tyL cy) s) (Z : ZG D (wC ad cy st) A s H locs) (hd : decode cc pc = .ok (.arraylength, 1)) (kk : W p l e R s m args below meth c H locs 0 0 Q (F0 m (pc + 1) ls (.int 200 :: rest))) : W p l e R s m args below meth c H locs 0 0 Q (F0 m pc ls (.ref (ad 44) :: rest)) :=
  va_alen F.1 F.2.1 K Z.1 44 1 rfl rfl (show Int32.ofNat 200 = 200 by decide) hd kk
theorem as44 {i : Int32} {v : Int32} (F : CallFix p m c cc nL s args (cw :: Gw) own) (K : va_K D vwCl (tyL cy) s) (Z : ZG D (wC ad cy st) A s H locs) (hi : inB i 200 = true) (hd : decode cc pc = .ok (.iastore, 1)) (kk : ∀ (H1 : Heap) (locs1 : List Loc), ZG D (wC ad cy (uA st 33 i v)) A s H1 locs1 → W p l e R s m args below meth c H1 locs1 0 0 Q (F0 m (pc + 1) ls rest)) : W p l e R s m args below meth c H locs 0 0 Q (F0 m pc ls (.int v :: .int i :: .ref (ad 44) :: rest)) :=
  va_iast F.1 F.2.1 K Z.1 Z.2.1 Z.2.2 44 1 rfl rfl (inB_vp hi) hd (fun H1 locs1 hP hD hS => kk H1 locs1 ⟨hP, hD, hS⟩)
end
set_option maxRecDepth 100000 in
set_option maxHeartbeats 4000000 in
theorem c_X5_keep_44 {l : Launch} {D : va_G} {ad : Nat → Nat} {cy : Nat → ClassId} {ee : EE} {n : Nat} {st : StT} {x1 : Int32} {x2 : Int32} {res : StT} (hf : f_X5_keep_44 n st x1 x2 = some res) : CT l yX5_keep cX5_keep 3 none 0 0 D cy ee (wC ad cy st) (wC ad cy res) [.ref (ad 44), .int x1, .int x2] (none) := by
  refine CT.of (by decide +kernel) (Nat.le_of_ble_eq_true rfl) ?_
  intro p e s m args below meth c A F hr hk K E hA Z ls hl
  have hl : lv_has ls 3 [(0, .ref (ad 44)), (1, .int x1), (2, .int x2)] := hl
  have hx := F.1
  have hb := F.2.1
  unfold f_X5_keep_44 at hf
  refine lv_iload_n hx hb dX5_keep_0 rfl (lv_at hl 1 rfl) ?_
  refine lv_if_lt (tgt := 14) hx hb dX5_keep_1 (by decide) (fun c1 => ?_) (fun c1 => ?_)
  · have hf := if_t c1 hf
    have hf := Option.some.inj hf
    subst hf
    exact ret_v F hr hk Z dX5_keep_14
  have hf := if_f c1 hf
  refine lv_iload_n hx hb dX5_keep_4 rfl (lv_at hl 1 rfl) ?_
  refine lv_aload_n hx hb dX5_keep_5 rfl (lv_at hl 0 rfl) ?_
  refine an44 F K Z dX5_keep_6 ?_
  refine lv_icmp_ge (tgt := 14) hx hb dX5_keep_7 (by decide) (fun c7 => ?_) (fun c7 => ?_)
  · have hf := if_t c7 hf
    have hf := Option.some.inj hf
    subst hf
    exact ret_v F hr hk Z dX5_keep_14
  have hf := if_f c7 hf
  refine lv_aload_n hx hb dX5_keep_10 rfl (lv_at hl 0 rfl) ?_
  refine lv_iload_n hx hb dX5_keep_11 rfl (lv_at hl 1 rfl) ?_
  refine lv_iload_n hx hb dX5_keep_12 rfl (lv_at hl 2 rfl) ?_
  obtain ⟨i13, hf⟩ := if_some hf
  refine as44 F K Z i13 dX5_keep_13 (fun H locs Z => ?_)
  have hf := Option.some.inj hf
  subst hf
  exact ret_v F hr hk Z dX5_keep_14
def f_X5_kept_44 (n : Nat) (st : StT) (x1 : Int32) : Option (Int32 × StT) := if x1 < 0 then (some ((-1 : Int32), st)) else (if (200 : Int32) ≤ x1 then (some ((-1 : Int32), st)) else (if inB x1 200 = true then (some ((st.2.1 33 (x1).toNatClampNeg), st)) else none))
section
variable {p : Program} {l : Launch} {e : Env} {R : Room} {s : State} {m : MethodId} {args : Array Value} {below : List Frame} {meth : Method} {c : Code} {H : Heap} {locs : List Loc} {Q : State → Prop}
variable {cc : ByteArray} {nL pc : Nat} {ls : Array Slot} {rest : List Value} {D : va_G} {A : Nat → Prop} {cw : Cond} {ad : Nat → Nat} {cy : Nat → ClassId} {ee : EE} {st : StT} {own : String}
theorem al44 {i : Int32} (F : CallFix p m c cc nL s args (cw :: Gw) own) (K : va_K D vwCl (tyL cy) s) (Z : ZG D (wC ad cy st) A s H locs) (hi : inB i 200 = true) (hd : decode cc pc = .ok (.iaload, 1)) (kk : W p l e R s m args below meth c H locs 0 0 Q (F0 m (pc + 1) ls (.int (st.2.1 33 i.toNatClampNeg) :: rest))) : W p l e R s m args below meth c H locs 0 0 Q (F0 m pc ls (.int i :: .ref (ad 44) :: rest)) :=
  va_iald F.1 F.2.1 K Z.1 44 1 rfl rfl (inB_vp hi) hd kk
end
set_option maxRecDepth 100000 in
set_option maxHeartbeats 4000000 in
theorem c_X5_kept_44 {l : Launch} {D : va_G} {ad : Nat → Nat} {cy : Nat → ClassId} {ee : EE} {n : Nat} {st : StT} {x1 : Int32} {res : (Int32 × StT)} (hf : f_X5_kept_44 n st x1 = some res) : CT l yX5_kept cX5_kept 2 (some .int) 0 0 D cy ee (wC ad cy st) (wC ad cy res.2) [.ref (ad 44), .int x1] (some (.int res.1)) := by
  refine CT.of (by decide +kernel) (Nat.le_of_ble_eq_true rfl) ?_
  intro p e s m args below meth c A F hr hk K E hA Z ls hl
  have hl : lv_has ls 2 [(0, .ref (ad 44)), (1, .int x1)] := hl
  have hx := F.1
  have hb := F.2.1
  unfold f_X5_kept_44 at hf
  refine lv_iload_n hx hb dX5_kept_0 rfl (lv_at hl 1 rfl) ?_
  refine lv_if_lt (tgt := 16) hx hb dX5_kept_1 (by decide) (fun c1 => ?_) (fun c1 => ?_)
  · have hf := if_t c1 hf
    refine lv_iconst (v := -1) hx hb dX5_kept_16 (by decide) ?_
    have hf := Option.some.inj hf
    subst hf
    exact ret_i F hr hk Z dX5_kept_17
  have hf := if_f c1 hf
  refine lv_iload_n hx hb dX5_kept_4 rfl (lv_at hl 1 rfl) ?_
  refine lv_aload_n hx hb dX5_kept_5 rfl (lv_at hl 0 rfl) ?_
  refine an44 F K Z dX5_kept_6 ?_
  refine lv_icmp_ge (tgt := 16) hx hb dX5_kept_7 (by decide) (fun c7 => ?_) (fun c7 => ?_)
  · have hf := if_t c7 hf
    refine lv_iconst (v := -1) hx hb dX5_kept_16 (by decide) ?_
    have hf := Option.some.inj hf
    subst hf
    exact ret_i F hr hk Z dX5_kept_17
  have hf := if_f c7 hf
  refine lv_aload_n hx hb dX5_kept_10 rfl (lv_at hl 0 rfl) ?_
  refine lv_iload_n hx hb dX5_kept_11 rfl (lv_at hl 1 rfl) ?_
  obtain ⟨i12, hf⟩ := if_some hf
  refine al44 F K Z i12 dX5_kept_12 ?_
  refine lv_goto (tgt := 17) hx hb dX5_kept_13 (by decide) ?_
  have hf := Option.some.inj hf
  subst hf
  exact ret_i F hr hk Z dX5_kept_17
def f_X5_beginRightCase (n : Nat) (st : StT) (x1 : Int32) : Option (Int32 × StT) := (f_X5_kept_43 n st x1).bind fun q10 => ((f_X6_formulaAt n q10.2 x1 q10.1).bind fun q13 => ((f_X5_keep_44 n q13.2 x1 (q13.2.1 24)).bind fun q26 => ((f_X5_kept_43 n q26 x1).bind fun q39 => ((f_X6_goalOf n q39.2 x1).bind fun q47 => ((f_X6_follow n q47.2 x1 q39.1 q47.1).bind fun q50 => ((f_X1_secondOf_F0 n q50 q13.1).bind fun q66 => ((f_X5_kept_45 n q66.2 x1).bind fun q74 => ((f_X6_comes n q74.2 (x1 + (1 : Int32)) q66.1 q74.1).bind fun q77 => ((f_X5_waitIf n q77.2 q77.1 x1 (5 : Int32)).bind fun q82 => (some (q82.1, q82.2)))))))))))
section
variable {p : Program} {l : Launch} {e : Env} {R : Room} {s : State} {m : MethodId} {args : Array Value} {below : List Frame} {meth : Method} {c : Code} {H : Heap} {locs : List Loc} {Q : State → Prop}
variable {cc : ByteArray} {nL pc : Nat} {ls : Array Slot} {rest : List Value} {D : va_G} {A : Nat → Prop} {cw : Cond} {ad : Nat → Nat} {cy : Nat → ClassId} {ee : EE} {st : StT} {own : String}
theorem krX5_93_X5_keep_44 {n : Nat} {a1 : Int32} {a2 : Int32} {q : StT} (F : CallFix p m c cc nL s args (cw :: Gw) RX5) (K : va_K D vwCl (tyL cy) s) (E : EV ee A s s.heap) (hA : ∀ q, s.heap.size ≤ q → A q) (Z : ZG D (wC ad cy st) A s H locs) (hf : f_X5_keep_44 n st a1 a2 = some q) (hR : 1 ≤ R.frames ∧ 22 ≤ R.locals) (hl : ls.size = nL) (hst : (rest.map fun v => v.category).sum ≤ 8) (hd : decode cc pc = .ok (.invokestatic 93, 3)) (kk : ∀ (H1 : Heap) (locs1 : List Loc), ZG D (wC ad cy q) A s H1 locs1 → W p l e R s m args below meth c H1 locs1 0 0 Q (F0 m (pc + 3) ls (rest))) : W p l e R s m args below meth c H locs 0 0 Q (F0 m pc ls (.int a2 :: .int a1 :: .ref (ad 44) :: rest)) :=
  call_S (n := 3) (As := [.ref (ad 44), .int a1, .int a2]) (rv := none) F K E hA Z (c_X5_keep_44 (l := l) (D := D) (ad := ad) (cy := cy) (ee := ee) hf) ⟨wd139, wd138, wd140, wd141⟩ (by decide +kernel) hR rfl hl hst hd kk
end
set_option maxRecDepth 100000 in
set_option maxHeartbeats 4000000 in
theorem c_X5_beginRightCase {l : Launch} {D : va_G} {ad : Nat → Nat} {cy : Nat → ClassId} {ee : EE} {n : Nat} {st : StT} {x1 : Int32} {res : (Int32 × StT)} (hf : f_X5_beginRightCase n st x1 = some res) : CT l yX5_beginRightCase cX5_beginRightCase 3 (some .int) 3 68 D cy ee (wC ad cy st) (wC ad cy res.2) [.ref (ad 23), .int x1] (some (.int res.1)) := by
  refine CT.of (by decide +kernel) (Nat.le_of_ble_eq_true rfl) ?_
  intro p e s m args below meth c A F hr hk K E hA Z ls hl
  have hl : lv_has ls 3 [(0, .ref (ad 23)), (1, .int x1)] := hl
  have hx := F.1
  have hb := F.2.1
  unfold f_X5_beginRightCase at hf
  refine lv_aload_n hx hb dX5_beginRightCase_0 rfl (lv_at hl 0 rfl) ?_
  refine grX5_23_23 F K Z dX5_beginRightCase_1 ?_
  refine lv_iload_n hx hb dX5_beginRightCase_4 rfl (lv_at hl 1 rfl) ?_
  refine lv_aload_n hx hb dX5_beginRightCase_5 rfl (lv_at hl 0 rfl) ?_
  refine grX5_38_23 F K Z dX5_beginRightCase_6 ?_
  refine lv_iload_n hx hb dX5_beginRightCase_9 rfl (lv_at hl 1 rfl) ?_
  obtain ⟨q10, h10, hf⟩ := bind_some hf
  refine krX5_153_X5_kept_43 F K E hA Z h10 ⟨Nat.le_of_ble_eq_true rfl, Nat.le_of_ble_eq_true rfl⟩ hl.1 (Nat.le_of_ble_eq_true rfl) dX5_beginRightCase_10 (fun H locs Z => ?_)
  obtain ⟨q13, h13, hf⟩ := bind_some hf
  refine krX5_164_X6_formulaAt F K E hA Z h13 ⟨Nat.le_of_ble_eq_true rfl, Nat.le_of_ble_eq_true rfl⟩ hl.1 (Nat.le_of_ble_eq_true rfl) dX5_beginRightCase_13 (fun H locs Z => ?_)
  refine lv_istore_n (lv' := [(2, .int q13.1), (0, .ref (ad 23)), (1, .int x1)]) hx hb dX5_beginRightCase_16 rfl hl (by decide) rfl (fun ls hl => ?_)
  refine lv_aload_n hx hb dX5_beginRightCase_17 rfl (lv_at hl 1 rfl) ?_
  refine grX5_41_23 F K Z dX5_beginRightCase_18 ?_
  refine lv_iload_n hx hb dX5_beginRightCase_21 rfl (lv_at hl 2 rfl) ?_
  refine lv_aload_n hx hb dX5_beginRightCase_22 rfl (lv_at hl 1 rfl) ?_
  refine grX5_51_23 F K Z dX5_beginRightCase_23 ?_
  obtain ⟨q26, h26, hf⟩ := bind_some hf
  refine krX5_93_X5_keep_44 F K E hA Z h26 ⟨Nat.le_of_ble_eq_true rfl, Nat.le_of_ble_eq_true rfl⟩ hl.1 (Nat.le_of_ble_eq_true rfl) dX5_beginRightCase_26 (fun H locs Z => ?_)
  refine lv_aload_n hx hb dX5_beginRightCase_29 rfl (lv_at hl 1 rfl) ?_
  refine grX5_23_23 F K Z dX5_beginRightCase_30 ?_
  refine lv_iload_n hx hb dX5_beginRightCase_33 rfl (lv_at hl 2 rfl) ?_
  refine lv_aload_n hx hb dX5_beginRightCase_34 rfl (lv_at hl 1 rfl) ?_
  refine grX5_38_23 F K Z dX5_beginRightCase_35 ?_
  refine lv_iload_n hx hb dX5_beginRightCase_38 rfl (lv_at hl 2 rfl) ?_
  obtain ⟨q39, h39, hf⟩ := bind_some hf
  refine krX5_153_X5_kept_43 F K E hA Z h39 ⟨Nat.le_of_ble_eq_true rfl, Nat.le_of_ble_eq_true rfl⟩ hl.1 (Nat.le_of_ble_eq_true rfl) dX5_beginRightCase_39 (fun H locs Z => ?_)
  refine lv_aload_n hx hb dX5_beginRightCase_42 rfl (lv_at hl 1 rfl) ?_
  refine grX5_23_23 F K Z dX5_beginRightCase_43 ?_
  refine lv_iload_n hx hb dX5_beginRightCase_46 rfl (lv_at hl 2 rfl) ?_
  obtain ⟨q47, h47, hf⟩ := bind_some hf
  refine krX5_107_X6_goalOf F K E hA Z h47 ⟨Nat.le_of_ble_eq_true rfl, Nat.le_of_ble_eq_true rfl⟩ hl.1 (Nat.le_of_ble_eq_true rfl) dX5_beginRightCase_47 (fun H locs Z => ?_)
  obtain ⟨q50, h50, hf⟩ := bind_some hf
  refine krX5_137_X6_follow F K E hA Z h50 ⟨Nat.le_of_ble_eq_true rfl, Nat.le_of_ble_eq_true rfl⟩ hl.1 (Nat.le_of_ble_eq_true rfl) dX5_beginRightCase_50 (fun H locs Z => ?_)
  refine lv_aload_n hx hb dX5_beginRightCase_53 rfl (lv_at hl 1 rfl) ?_
  refine lv_aload_n hx hb dX5_beginRightCase_54 rfl (lv_at hl 1 rfl) ?_
  refine grX5_23_23 F K Z dX5_beginRightCase_55 ?_
  refine lv_iload_n hx hb dX5_beginRightCase_58 rfl (lv_at hl 2 rfl) ?_
  refine lv_iconst (v := 1) hx hb dX5_beginRightCase_59 (by decide) ?_
  refine lv_iadd hx hb dX5_beginRightCase_60 ?_
  refine lv_aload_n hx hb dX5_beginRightCase_61 rfl (lv_at hl 1 rfl) ?_
  refine grX5_54_23 F K Z dX5_beginRightCase_62 ?_
  refine lv_iload_n hx hb dX5_beginRightCase_65 rfl (lv_at hl 0 rfl) ?_
  obtain ⟨q66, h66, hf⟩ := bind_some hf
  refine krX5_150_X1_secondOf_F0 F K E hA Z h66 ⟨Nat.le_of_ble_eq_true rfl, Nat.le_of_ble_eq_true rfl⟩ hl.1 (Nat.le_of_ble_eq_true rfl) dX5_beginRightCase_66 (fun H locs Z => ?_)
  refine lv_aload_n hx hb dX5_beginRightCase_69 rfl (lv_at hl 1 rfl) ?_
  refine grX5_44_23 F K Z dX5_beginRightCase_70 ?_
  refine lv_iload_n hx hb dX5_beginRightCase_73 rfl (lv_at hl 2 rfl) ?_
  obtain ⟨q74, h74, hf⟩ := bind_some hf
  refine krX5_153_X5_kept_45 F K E hA Z h74 ⟨Nat.le_of_ble_eq_true rfl, Nat.le_of_ble_eq_true rfl⟩ hl.1 (Nat.le_of_ble_eq_true rfl) dX5_beginRightCase_74 (fun H locs Z => ?_)
  obtain ⟨q77, h77, hf⟩ := bind_some hf
  refine krX5_81_X6_comes F K E hA Z h77 ⟨Nat.le_of_ble_eq_true rfl, Nat.le_of_ble_eq_true rfl⟩ hl.1 (Nat.le_of_ble_eq_true rfl) dX5_beginRightCase_77 (fun H locs Z => ?_)
  refine lv_iload_n hx hb dX5_beginRightCase_80 rfl (lv_at hl 2 rfl) ?_
  refine lv_iconst (v := 5) hx hb dX5_beginRightCase_81 (by decide) ?_
  obtain ⟨q82, h82, hf⟩ := bind_some hf
  refine krX5_157_X5_waitIf F K E hA Z h82 ⟨Nat.le_of_ble_eq_true rfl, Nat.le_of_ble_eq_true rfl⟩ hl.1 (Nat.le_of_ble_eq_true rfl) dX5_beginRightCase_82 (fun H locs Z => ?_)
  have hf := Option.some.inj hf
  subst hf
  exact ret_i F hr hk Z dX5_beginRightCase_85
def f_X5_beginAfterNested (n : Nat) (st : StT) (x1 : Int32) : Option (Int32 × StT) := (f_X5_kept_43 n st x1).bind fun q5 => ((f_X6_formulaAt n q5.2 x1 q5.1).bind fun q15 => ((f_X1_firstOf_F0 n q15.2 q15.1).bind fun q32 => ((f_X1_firstOf_F0 n q32.2 q32.1).bind fun q35 => ((f_X5_kept_45 n q35.2 x1).bind fun q47 => ((f_X7_lambda_T1 n q47.2 q35.1 (q35.2.1 24) q47.1).bind fun q50 => ((f_X6_termAt n q50.2 x1 q5.1).bind fun q67 => ((f_X7_two_T1 n q67.2 (65 : Int32) q67.1 q50.1).bind fun q72 => ((f_X6_goalOf n q72.2 x1).bind fun q88 => ((f_X6_follow n q88.2 x1 q5.1 q88.1).bind fun q91 => ((f_X1_secondOf_F0 n q91 q15.1).bind fun q107 => ((f_X6_comes n q107.2 (x1 + (1 : Int32)) q107.1 q72.1).bind fun q112 => ((f_X5_waitIf n q112.2 q112.1 x1 (0 : Int32)).bind fun q117 => (some (q117.1, q117.2))))))))))))))
set_option maxRecDepth 100000 in
set_option maxHeartbeats 4000000 in
theorem c_X5_beginAfterNested {l : Launch} {D : va_G} {ad : Nat → Nat} {cy : Nat → ClassId} {ee : EE} {n : Nat} {st : StT} {x1 : Int32} {res : (Int32 × StT)} (hf : f_X5_beginAfterNested n st x1 = some res) : CT l yX5_beginAfterNested cX5_beginAfterNested 6 (some .int) 3 68 D cy ee (wC ad cy st) (wC ad cy res.2) [.ref (ad 23), .int x1] (some (.int res.1)) := by
  refine CT.of (by decide +kernel) (Nat.le_of_ble_eq_true rfl) ?_
  intro p e s m args below meth c A F hr hk K E hA Z ls hl
  have hl : lv_has ls 6 [(0, .ref (ad 23)), (1, .int x1)] := hl
  have hx := F.1
  have hb := F.2.1
  unfold f_X5_beginAfterNested at hf
  refine lv_aload_n hx hb dX5_beginAfterNested_0 rfl (lv_at hl 0 rfl) ?_
  refine grX5_38_23 F K Z dX5_beginAfterNested_1 ?_
  refine lv_iload_n hx hb dX5_beginAfterNested_4 rfl (lv_at hl 1 rfl) ?_
  obtain ⟨q5, h5, hf⟩ := bind_some hf
  refine krX5_153_X5_kept_43 F K E hA Z h5 ⟨Nat.le_of_ble_eq_true rfl, Nat.le_of_ble_eq_true rfl⟩ hl.1 (Nat.le_of_ble_eq_true rfl) dX5_beginAfterNested_5 (fun H locs Z => ?_)
  refine lv_istore_n (lv' := [(2, .int q5.1), (0, .ref (ad 23)), (1, .int x1)]) hx hb dX5_beginAfterNested_8 rfl hl (by decide) rfl (fun ls hl => ?_)
  refine lv_aload_n hx hb dX5_beginAfterNested_9 rfl (lv_at hl 1 rfl) ?_
  refine grX5_23_23 F K Z dX5_beginAfterNested_10 ?_
  refine lv_iload_n hx hb dX5_beginAfterNested_13 rfl (lv_at hl 2 rfl) ?_
  refine lv_iload_n hx hb dX5_beginAfterNested_14 rfl (lv_at hl 0 rfl) ?_
  obtain ⟨q15, h15, hf⟩ := bind_some hf
  refine krX5_164_X6_formulaAt F K E hA Z h15 ⟨Nat.le_of_ble_eq_true rfl, Nat.le_of_ble_eq_true rfl⟩ hl.1 (Nat.le_of_ble_eq_true rfl) dX5_beginAfterNested_15 (fun H locs Z => ?_)
  refine lv_istore_n (lv' := [(3, .int q15.1), (2, .int q5.1), (0, .ref (ad 23)), (1, .int x1)]) hx hb dX5_beginAfterNested_18 rfl hl (by decide) rfl (fun ls hl => ?_)
  refine lv_aload_n hx hb dX5_beginAfterNested_19 rfl (lv_at hl 2 rfl) ?_
  refine grX5_16_23 F K Z dX5_beginAfterNested_20 ?_
  refine lv_aload_n hx hb dX5_beginAfterNested_23 rfl (lv_at hl 2 rfl) ?_
  refine grX5_54_23 F K Z dX5_beginAfterNested_24 ?_
  refine lv_aload_n hx hb dX5_beginAfterNested_27 rfl (lv_at hl 2 rfl) ?_
  refine grX5_54_23 F K Z dX5_beginAfterNested_28 ?_
  refine lv_iload_n hx hb dX5_beginAfterNested_31 rfl (lv_at hl 0 rfl) ?_
  obtain ⟨q32, h32, hf⟩ := bind_some hf
  refine krX5_134_X1_firstOf_F0 F K E hA Z h32 ⟨Nat.le_of_ble_eq_true rfl, Nat.le_of_ble_eq_true rfl⟩ hl.1 (Nat.le_of_ble_eq_true rfl) dX5_beginAfterNested_32 (fun H locs Z => ?_)
  obtain ⟨q35, h35, hf⟩ := bind_some hf
  refine krX5_134_X1_firstOf_F0 F K E hA Z h35 ⟨Nat.le_of_ble_eq_true rfl, Nat.le_of_ble_eq_true rfl⟩ hl.1 (Nat.le_of_ble_eq_true rfl) dX5_beginAfterNested_35 (fun H locs Z => ?_)
  refine lv_aload_n hx hb dX5_beginAfterNested_38 rfl (lv_at hl 2 rfl) ?_
  refine grX5_51_23 F K Z dX5_beginAfterNested_39 ?_
  refine lv_aload_n hx hb dX5_beginAfterNested_42 rfl (lv_at hl 2 rfl) ?_
  refine grX5_44_23 F K Z dX5_beginAfterNested_43 ?_
  refine lv_iload_n hx hb dX5_beginAfterNested_46 rfl (lv_at hl 3 rfl) ?_
  obtain ⟨q47, h47, hf⟩ := bind_some hf
  refine krX5_153_X5_kept_45 F K E hA Z h47 ⟨Nat.le_of_ble_eq_true rfl, Nat.le_of_ble_eq_true rfl⟩ hl.1 (Nat.le_of_ble_eq_true rfl) dX5_beginAfterNested_47 (fun H locs Z => ?_)
  obtain ⟨q50, h50, hf⟩ := bind_some hf
  refine krX5_192_X7_lambda_T1 F K E hA Z h50 ⟨Nat.le_of_ble_eq_true rfl, Nat.le_of_ble_eq_true rfl⟩ hl.1 (Nat.le_of_ble_eq_true rfl) dX5_beginAfterNested_50 (fun H locs Z => ?_)
  refine lv_istore (lv' := [(4, .int q50.1), (3, .int q15.1), (2, .int q5.1), (0, .ref (ad 23)), (1, .int x1)]) hx hb dX5_beginAfterNested_53 hl (by decide) rfl (fun ls hl => ?_)
  refine lv_aload_n hx hb dX5_beginAfterNested_55 rfl (lv_at hl 3 rfl) ?_
  refine grX5_16_23 F K Z dX5_beginAfterNested_56 ?_
  refine lv_bipush (v := 65) hx hb dX5_beginAfterNested_59 (by decide) ?_
  refine lv_aload_n hx hb dX5_beginAfterNested_61 rfl (lv_at hl 3 rfl) ?_
  refine grX5_23_23 F K Z dX5_beginAfterNested_62 ?_
  refine lv_iload_n hx hb dX5_beginAfterNested_65 rfl (lv_at hl 4 rfl) ?_
  refine lv_iload_n hx hb dX5_beginAfterNested_66 rfl (lv_at hl 2 rfl) ?_
  obtain ⟨q67, h67, hf⟩ := bind_some hf
  refine krX5_113_X6_termAt F K E hA Z h67 ⟨Nat.le_of_ble_eq_true rfl, Nat.le_of_ble_eq_true rfl⟩ hl.1 (Nat.le_of_ble_eq_true rfl) dX5_beginAfterNested_67 (fun H locs Z => ?_)
  refine lv_iload hx hb dX5_beginAfterNested_70 (lv_at hl 0 rfl) ?_
  obtain ⟨q72, h72, hf⟩ := bind_some hf
  refine krX5_178_X7_two_T1 F K E hA Z h72 ⟨Nat.le_of_ble_eq_true rfl, Nat.le_of_ble_eq_true rfl⟩ hl.1 (Nat.le_of_ble_eq_true rfl) dX5_beginAfterNested_72 (fun H locs Z => ?_)
  refine lv_istore (lv' := [(5, .int q72.1), (4, .int q50.1), (3, .int q15.1), (2, .int q5.1), (0, .ref (ad 23)), (1, .int x1)]) hx hb dX5_beginAfterNested_75 hl (by decide) rfl (fun ls hl => ?_)
  refine lv_aload_n hx hb dX5_beginAfterNested_77 rfl (lv_at hl 4 rfl) ?_
  refine grX5_23_23 F K Z dX5_beginAfterNested_78 ?_
  refine lv_iload_n hx hb dX5_beginAfterNested_81 rfl (lv_at hl 5 rfl) ?_
  refine lv_iload_n hx hb dX5_beginAfterNested_82 rfl (lv_at hl 3 rfl) ?_
  refine lv_aload_n hx hb dX5_beginAfterNested_83 rfl (lv_at hl 4 rfl) ?_
  refine grX5_23_23 F K Z dX5_beginAfterNested_84 ?_
  refine lv_iload_n hx hb dX5_beginAfterNested_87 rfl (lv_at hl 5 rfl) ?_
  obtain ⟨q88, h88, hf⟩ := bind_some hf
  refine krX5_107_X6_goalOf F K E hA Z h88 ⟨Nat.le_of_ble_eq_true rfl, Nat.le_of_ble_eq_true rfl⟩ hl.1 (Nat.le_of_ble_eq_true rfl) dX5_beginAfterNested_88 (fun H locs Z => ?_)
  obtain ⟨q91, h91, hf⟩ := bind_some hf
  refine krX5_137_X6_follow F K E hA Z h91 ⟨Nat.le_of_ble_eq_true rfl, Nat.le_of_ble_eq_true rfl⟩ hl.1 (Nat.le_of_ble_eq_true rfl) dX5_beginAfterNested_91 (fun H locs Z => ?_)
  refine lv_aload_n hx hb dX5_beginAfterNested_94 rfl (lv_at hl 4 rfl) ?_
  refine lv_aload_n hx hb dX5_beginAfterNested_95 rfl (lv_at hl 4 rfl) ?_
  refine grX5_23_23 F K Z dX5_beginAfterNested_96 ?_
  refine lv_iload_n hx hb dX5_beginAfterNested_99 rfl (lv_at hl 5 rfl) ?_
  refine lv_iconst (v := 1) hx hb dX5_beginAfterNested_100 (by decide) ?_
  refine lv_iadd hx hb dX5_beginAfterNested_101 ?_
  refine lv_aload_n hx hb dX5_beginAfterNested_102 rfl (lv_at hl 4 rfl) ?_
  refine grX5_54_23 F K Z dX5_beginAfterNested_103 ?_
  refine lv_iload_n hx hb dX5_beginAfterNested_106 rfl (lv_at hl 2 rfl) ?_
  obtain ⟨q107, h107, hf⟩ := bind_some hf
  refine krX5_150_X1_secondOf_F0 F K E hA Z h107 ⟨Nat.le_of_ble_eq_true rfl, Nat.le_of_ble_eq_true rfl⟩ hl.1 (Nat.le_of_ble_eq_true rfl) dX5_beginAfterNested_107 (fun H locs Z => ?_)
  refine lv_iload hx hb dX5_beginAfterNested_110 (lv_at hl 0 rfl) ?_
  obtain ⟨q112, h112, hf⟩ := bind_some hf
  refine krX5_81_X6_comes F K E hA Z h112 ⟨Nat.le_of_ble_eq_true rfl, Nat.le_of_ble_eq_true rfl⟩ hl.1 (Nat.le_of_ble_eq_true rfl) dX5_beginAfterNested_112 (fun H locs Z => ?_)
  refine lv_iload_n hx hb dX5_beginAfterNested_115 rfl (lv_at hl 5 rfl) ?_
  refine lv_iconst (v := 0) hx hb dX5_beginAfterNested_116 (by decide) ?_
  obtain ⟨q117, h117, hf⟩ := bind_some hf
  refine krX5_157_X5_waitIf F K E hA Z h117 ⟨Nat.le_of_ble_eq_true rfl, Nat.le_of_ble_eq_true rfl⟩ hl.1 (Nat.le_of_ble_eq_true rfl) dX5_beginAfterNested_117 (fun H locs Z => ?_)
  have hf := Option.some.inj hf
  subst hf
  exact ret_i F hr hk Z dX5_beginAfterNested_120
def f_X5_goOnProved (n : Nat) (st : StT) (x1 : Int32) : Option (Int32 × StT) := (f_X5_kept_42 n st x1).bind fun q5 => (if q5.1 = 1 then ((f_X6_goalOf n q5.2 x1).bind fun q70 => ((f_X1_firstOf_F0 n q70.2 q70.1).bind fun q73 => ((f_X5_kept_45 n q73.2 x1).bind fun q85 => ((f_X7_lambda_T1 n q85.2 q73.1 (q73.2.1 24) q85.1).bind fun q88 => ((f_X5_provedBy n q88.2 q88.1).bind fun q91 => (some (q91.1, q91.2))))))) else (if q5.1 = 2 then ((f_X5_keep_44 n q5.2 x1 (q5.2.1 24)).bind fun q104 => ((f_X6_goalOf n q104 x1).bind fun q122 => ((f_X1_secondOf_F0 n q122.2 q122.1).bind fun q125 => ((f_X6_follow n q125.2 x1 (-1 : Int32) q125.1).bind fun q128 => ((f_X5_waitFor n q128 x1 (3 : Int32)).bind fun q134 => (some (q134.1, q134.2))))))) else (if q5.1 = 3 then ((f_X5_kept_44 n q5.2 x1).bind fun q150 => ((f_X7_two_T1 n q150.2 (80 : Int32) q150.1 (q150.2.1 24)).bind fun q157 => ((f_X5_provedBy n q157.2 q157.1).bind fun q160 => (some (q160.1, q160.2))))) else (if q5.1 = 4 then ((f_X5_beginRightCase n q5.2 x1).bind fun q166 => (some (q166.1, q166.2))) else (if q5.1 = 5 then ((f_X5_kept_43 n q5.2 x1).bind fun q180 => ((f_X6_termAt n q180.2 x1 q180.1).bind fun q183 => ((f_X5_kept_44 n q183.2 x1).bind fun q200 => ((f_X5_kept_45 n q200.2 x1).bind fun q212 => ((f_X7_add_T1 n q212.2 (67 : Int32) q183.1 q200.1 (q200.2.1 24) q212.1).bind fun q215 => ((f_X5_provedBy n q215.2 q215.1).bind fun q218 => (some (q218.1, q218.2)))))))) else (if q5.1 = 6 then ((f_X7_one_T1 n q5.2 (73 : Int32) (q5.2.1 24)).bind fun q233 => ((f_X5_provedBy n q233.2 q233.1).bind fun q236 => (some (q236.1, q236.2)))) else (if q5.1 = 7 then ((f_X7_one_T1 n q5.2 (74 : Int32) (q5.2.1 24)).bind fun q251 => ((f_X5_provedBy n q251.2 q251.1).bind fun q254 => (some (q254.1, q254.2)))) else (if q5.1 = 8 then ((f_X5_beginAfterNested n q5.2 x1).bind fun q260 => (some (q260.1, q260.2))) else (some ((1 : Int32), q5.2))))))))))
theorem wd228 : Cond.methodLink RX5 116 yX5_provedBy ∈ Gw := gT4 (List.mem_of_getElem? (i := 113) rfl) rfl
theorem wd229 : Cond.code yX5_provedBy prog_7_method_5_code 2 (some .int) ∈ Gw := gT4 (List.mem_of_getElem? (i := 116) rfl) rfl
theorem wd230 : Cond.instanceMethod yX5_provedBy ∈ Gw := gT4 (List.mem_of_getElem? (i := 115) rfl) rfl
theorem wd231 : Cond.selects RX5 yX5_provedBy yX5_provedBy ∈ Gw := gP2 (q := (yX5_provedBy, 14)) (List.mem_of_getElem? (i := 12) rfl)
theorem wd232 : Cond.methodLink RX5 201 yX5_beginRightCase ∈ Gw := gT4 (List.mem_of_getElem? (i := 215) rfl) rfl
theorem wd233 : Cond.code yX5_beginRightCase prog_7_method_20_code 3 (some .int) ∈ Gw := gT4 (List.mem_of_getElem? (i := 218) rfl) rfl
theorem wd234 : Cond.instanceMethod yX5_beginRightCase ∈ Gw := gT4 (List.mem_of_getElem? (i := 217) rfl) rfl
theorem wd235 : Cond.selects RX5 yX5_beginRightCase yX5_beginRightCase ∈ Gw := gP3 (q := (yX5_beginRightCase, 14)) (List.mem_of_getElem? (i := 10) rfl)
theorem wd236 : Cond.methodLink RX5 204 yX7_add ∈ Gw := gT4 (List.mem_of_getElem? (i := 219) rfl) rfl
theorem wd237 : Cond.methodLink RX5 119 yX7_one ∈ Gw := gT4 (List.mem_of_getElem? (i := 117) rfl) rfl
theorem wd238 : Cond.code yX7_one prog_9_method_9_code 3 (some .int) ∈ Gw := gT4 (List.mem_of_getElem? (i := 120) rfl) rfl
theorem wd239 : Cond.instanceMethod yX7_one ∈ Gw := gT4 (List.mem_of_getElem? (i := 118) rfl) rfl
theorem wd240 : Cond.selects RX7 yX7_one yX7_one ∈ Gw := gT4 (List.mem_of_getElem? (i := 119) rfl) rfl
theorem wd241 : Cond.methodLink RX5 207 yX5_beginAfterNested ∈ Gw := gT4 (List.mem_of_getElem? (i := 220) rfl) rfl
theorem wd242 : Cond.code yX5_beginAfterNested prog_7_method_21_code 6 (some .int) ∈ Gw := gT4 (List.mem_of_getElem? (i := 223) rfl) rfl
theorem wd243 : Cond.instanceMethod yX5_beginAfterNested ∈ Gw := gT4 (List.mem_of_getElem? (i := 222) rfl) rfl
theorem wd244 : Cond.selects RX5 yX5_beginAfterNested yX5_beginAfterNested ∈ Gw := gP3 (q := (yX5_beginAfterNested, 14)) (List.mem_of_getElem? (i := 11) rfl)
section
variable {p : Program} {l : Launch} {e : Env} {R : Room} {s : State} {m : MethodId} {args : Array Value} {below : List Frame} {meth : Method} {c : Code} {H : Heap} {locs : List Loc} {Q : State → Prop}
variable {cc : ByteArray} {nL pc : Nat} {ls : Array Slot} {rest : List Value} {D : va_G} {A : Nat → Prop} {cw : Cond} {ad : Nat → Nat} {cy : Nat → ClassId} {ee : EE} {st : StT} {own : String}
theorem krX5_116_X5_provedBy {n : Nat} {a0 : Int32} {q : (Int32 × StT)} (F : CallFix p m c cc nL s args (cw :: Gw) RX5) (K : va_K D vwCl (tyL cy) s) (E : EV ee A s s.heap) (hA : ∀ q, s.heap.size ≤ q → A q) (Z : ZG D (wC ad cy st) A s H locs) (hf : f_X5_provedBy n st a0 = some q) (hR : 1 ≤ R.frames ∧ 21 ≤ R.locals) (hl : ls.size = nL) (hst : (rest.map fun v => v.category).sum ≤ 8) (hd : decode cc pc = .ok (.invokevirtual 116, 3)) (kk : ∀ (H1 : Heap) (locs1 : List Loc), ZG D (wC ad cy q.2) A s H1 locs1 → W p l e R s m args below meth c H1 locs1 0 0 Q (F0 m (pc + 3) ls (.int q.1 :: rest))) : W p l e R s m args below meth c H locs 0 0 Q (F0 m pc ls (.int a0 :: .ref (ad 23) :: rest)) :=
  call_V (q := (RX5, TX5, 14)) (n := 1) (As := [.int a0]) (rv := some (.int q.1)) 23 5 F K E hA Z (c_X5_provedBy (l := l) (D := D) (ad := ad) (cy := cy) (ee := ee) hf) ⟨wd229, wd228, wd230, wd231, wd141⟩ (by decide +kernel) rfl rfl hR rfl hl hst hd kk
theorem krX5_153_X5_kept_44 {n : Nat} {a1 : Int32} {q : (Int32 × StT)} (F : CallFix p m c cc nL s args (cw :: Gw) RX5) (K : va_K D vwCl (tyL cy) s) (E : EV ee A s s.heap) (hA : ∀ q, s.heap.size ≤ q → A q) (Z : ZG D (wC ad cy st) A s H locs) (hf : f_X5_kept_44 n st a1 = some q) (hR : 1 ≤ R.frames ∧ 21 ≤ R.locals) (hl : ls.size = nL) (hst : (rest.map fun v => v.category).sum ≤ 8) (hd : decode cc pc = .ok (.invokestatic 153, 3)) (kk : ∀ (H1 : Heap) (locs1 : List Loc), ZG D (wC ad cy q.2) A s H1 locs1 → W p l e R s m args below meth c H1 locs1 0 0 Q (F0 m (pc + 3) ls (.int q.1 :: rest))) : W p l e R s m args below meth c H locs 0 0 Q (F0 m pc ls (.int a1 :: .ref (ad 44) :: rest)) :=
  call_S (n := 2) (As := [.ref (ad 44), .int a1]) (rv := some (.int q.1)) F K E hA Z (c_X5_kept_44 (l := l) (D := D) (ad := ad) (cy := cy) (ee := ee) hf) ⟨wd172, wd171, wd173, wd141⟩ (by decide +kernel) hR rfl hl hst hd kk
theorem krX5_201_X5_beginRightCase {n : Nat} {a0 : Int32} {q : (Int32 × StT)} (F : CallFix p m c cc nL s args (cw :: Gw) RX5) (K : va_K D vwCl (tyL cy) s) (E : EV ee A s s.heap) (hA : ∀ q, s.heap.size ≤ q → A q) (Z : ZG D (wC ad cy st) A s H locs) (hf : f_X5_beginRightCase n st a0 = some q) (hR : 4 ≤ R.frames ∧ 90 ≤ R.locals) (hl : ls.size = nL) (hst : (rest.map fun v => v.category).sum ≤ 8) (hd : decode cc pc = .ok (.invokevirtual 201, 3)) (kk : ∀ (H1 : Heap) (locs1 : List Loc), ZG D (wC ad cy q.2) A s H1 locs1 → W p l e R s m args below meth c H1 locs1 0 0 Q (F0 m (pc + 3) ls (.int q.1 :: rest))) : W p l e R s m args below meth c H locs 0 0 Q (F0 m pc ls (.int a0 :: .ref (ad 23) :: rest)) :=
  call_V (q := (RX5, TX5, 14)) (n := 1) (As := [.int a0]) (rv := some (.int q.1)) 23 5 F K E hA Z (c_X5_beginRightCase (l := l) (D := D) (ad := ad) (cy := cy) (ee := ee) hf) ⟨wd233, wd232, wd234, wd235, wd141⟩ (by decide +kernel) rfl rfl hR rfl hl hst hd kk
theorem krX5_204_X7_add_T1 {n : Nat} {a0 : Int32} {a1 : Int32} {a2 : Int32} {a3 : Int32} {a4 : Int32} {q : (Int32 × StT)} (F : CallFix p m c cc nL s args (cw :: Gw) RX5) (K : va_K D vwCl (tyL cy) s) (E : EV ee A s s.heap) (hA : ∀ q, s.heap.size ≤ q → A q) (Z : ZG D (wC ad cy st) A s H locs) (hf : f_X7_add_T1 n st a0 a1 a2 a3 a4 = some q) (hR : 1 ≤ R.frames ∧ 26 ≤ R.locals) (hl : ls.size = nL) (hst : (rest.map fun v => v.category).sum ≤ 8) (hd : decode cc pc = .ok (.invokevirtual 204, 3)) (kk : ∀ (H1 : Heap) (locs1 : List Loc), ZG D (wC ad cy q.2) A s H1 locs1 → W p l e R s m args below meth c H1 locs1 0 0 Q (F0 m (pc + 3) ls (.int q.1 :: rest))) : W p l e R s m args below meth c H locs 0 0 Q (F0 m pc ls (.int a4 :: .int a3 :: .int a2 :: .int a1 :: .int a0 :: .ref (ad 24) :: rest)) :=
  call_V (q := (RX7, TX7, 7)) (n := 5) (As := [.int a0, .int a1, .int a2, .int a3, .int a4]) (rv := some (.int q.1)) 24 7 F K E hA Z (c_X7_add_T1 (l := l) (D := D) (ad := ad) (cy := cy) (ee := ee) hf) ⟨wd57, wd236, wd58, wd59, wd60⟩ (by decide +kernel) rfl rfl hR rfl hl hst hd kk
theorem krX5_119_X7_one_T1 {n : Nat} {a0 : Int32} {a1 : Int32} {q : (Int32 × StT)} (F : CallFix p m c cc nL s args (cw :: Gw) RX5) (K : va_K D vwCl (tyL cy) s) (E : EV ee A s s.heap) (hA : ∀ q, s.heap.size ≤ q → A q) (Z : ZG D (wC ad cy st) A s H locs) (hf : f_X7_one_T1 n st a0 a1 = some q) (hR : 2 ≤ R.frames ∧ 48 ≤ R.locals) (hl : ls.size = nL) (hst : (rest.map fun v => v.category).sum ≤ 8) (hd : decode cc pc = .ok (.invokevirtual 119, 3)) (kk : ∀ (H1 : Heap) (locs1 : List Loc), ZG D (wC ad cy q.2) A s H1 locs1 → W p l e R s m args below meth c H1 locs1 0 0 Q (F0 m (pc + 3) ls (.int q.1 :: rest))) : W p l e R s m args below meth c H locs 0 0 Q (F0 m pc ls (.int a1 :: .int a0 :: .ref (ad 24) :: rest)) :=
  call_V (q := (RX7, TX7, 7)) (n := 2) (As := [.int a0, .int a1]) (rv := some (.int q.1)) 24 7 F K E hA Z (c_X7_one_T1 (l := l) (D := D) (ad := ad) (cy := cy) (ee := ee) hf) ⟨wd238, wd237, wd239, wd240, wd60⟩ (by decide +kernel) rfl rfl hR rfl hl hst hd kk
theorem krX5_207_X5_beginAfterNested {n : Nat} {a0 : Int32} {q : (Int32 × StT)} (F : CallFix p m c cc nL s args (cw :: Gw) RX5) (K : va_K D vwCl (tyL cy) s) (E : EV ee A s s.heap) (hA : ∀ q, s.heap.size ≤ q → A q) (Z : ZG D (wC ad cy st) A s H locs) (hf : f_X5_beginAfterNested n st a0 = some q) (hR : 4 ≤ R.frames ∧ 93 ≤ R.locals) (hl : ls.size = nL) (hst : (rest.map fun v => v.category).sum ≤ 8) (hd : decode cc pc = .ok (.invokevirtual 207, 3)) (kk : ∀ (H1 : Heap) (locs1 : List Loc), ZG D (wC ad cy q.2) A s H1 locs1 → W p l e R s m args below meth c H1 locs1 0 0 Q (F0 m (pc + 3) ls (.int q.1 :: rest))) : W p l e R s m args below meth c H locs 0 0 Q (F0 m pc ls (.int a0 :: .ref (ad 23) :: rest)) :=
  call_V (q := (RX5, TX5, 14)) (n := 1) (As := [.int a0]) (rv := some (.int q.1)) 23 5 F K E hA Z (c_X5_beginAfterNested (l := l) (D := D) (ad := ad) (cy := cy) (ee := ee) hf) ⟨wd242, wd241, wd243, wd244, wd141⟩ (by decide +kernel) rfl rfl hR rfl hl hst hd kk
end
set_option maxRecDepth 100000 in
set_option maxHeartbeats 4000000 in
theorem c_X5_goOnProved {l : Launch} {D : va_G} {ad : Nat → Nat} {cy : Nat → ClassId} {ee : EE} {n : Nat} {st : StT} {x1 : Int32} {res : (Int32 × StT)} (hf : f_X5_goOnProved n st x1 = some res) : CT l yX5_goOnProved cX5_goOnProved 3 (some .int) 4 93 D cy ee (wC ad cy st) (wC ad cy res.2) [.ref (ad 23), .int x1] (some (.int res.1)) := by
  refine CT.of (by decide +kernel) (Nat.le_of_ble_eq_true rfl) ?_
  intro p e s m args below meth c A F hr hk K E hA Z ls hl
  have hl : lv_has ls 3 [(0, .ref (ad 23)), (1, .int x1)] := hl
  have hx := F.1
  have hb := F.2.1
  unfold f_X5_goOnProved at hf
  refine lv_aload_n hx hb dX5_goOnProved_0 rfl (lv_at hl 0 rfl) ?_
  refine grX5_34_23 F K Z dX5_goOnProved_1 ?_
  refine lv_iload_n hx hb dX5_goOnProved_4 rfl (lv_at hl 1 rfl) ?_
  obtain ⟨q5, h5, hf⟩ := bind_some hf
  refine krX5_153_X5_kept_42 F K E hA Z h5 ⟨Nat.le_of_ble_eq_true rfl, Nat.le_of_ble_eq_true rfl⟩ hl.1 (Nat.le_of_ble_eq_true rfl) dX5_goOnProved_5 (fun H locs Z => ?_)
  by_cases c8_1 : q5.1 = 1
  · have hf := if_t c8_1 hf
    refine lv_tableIn (tgt := 56) hx hb dX5_goOnProved_8 (by rw [c8_1] <;> decide) (by rw [c8_1] <;> decide) (by rw [c8_1] <;> rfl) (by decide) ?_
    refine lv_aload_n hx hb dX5_goOnProved_56 rfl (lv_at hl 0 rfl) ?_
    refine lv_aload_n hx hb dX5_goOnProved_57 rfl (lv_at hl 0 rfl) ?_
    refine grX5_16_23 F K Z dX5_goOnProved_58 ?_
    refine lv_aload_n hx hb dX5_goOnProved_61 rfl (lv_at hl 0 rfl) ?_
    refine grX5_54_23 F K Z dX5_goOnProved_62 ?_
    refine lv_aload_n hx hb dX5_goOnProved_65 rfl (lv_at hl 0 rfl) ?_
    refine grX5_23_23 F K Z dX5_goOnProved_66 ?_
    refine lv_iload_n hx hb dX5_goOnProved_69 rfl (lv_at hl 1 rfl) ?_
    obtain ⟨q70, h70, hf⟩ := bind_some hf
    refine krX5_107_X6_goalOf F K E hA Z h70 ⟨Nat.le_of_ble_eq_true rfl, Nat.le_of_ble_eq_true rfl⟩ hl.1 (Nat.le_of_ble_eq_true rfl) dX5_goOnProved_70 (fun H locs Z => ?_)
    obtain ⟨q73, h73, hf⟩ := bind_some hf
    refine krX5_134_X1_firstOf_F0 F K E hA Z h73 ⟨Nat.le_of_ble_eq_true rfl, Nat.le_of_ble_eq_true rfl⟩ hl.1 (Nat.le_of_ble_eq_true rfl) dX5_goOnProved_73 (fun H locs Z => ?_)
    refine lv_aload_n hx hb dX5_goOnProved_76 rfl (lv_at hl 0 rfl) ?_
    refine grX5_51_23 F K Z dX5_goOnProved_77 ?_
    refine lv_aload_n hx hb dX5_goOnProved_80 rfl (lv_at hl 0 rfl) ?_
    refine grX5_44_23 F K Z dX5_goOnProved_81 ?_
    refine lv_iload_n hx hb dX5_goOnProved_84 rfl (lv_at hl 1 rfl) ?_
    obtain ⟨q85, h85, hf⟩ := bind_some hf
    refine krX5_153_X5_kept_45 F K E hA Z h85 ⟨Nat.le_of_ble_eq_true rfl, Nat.le_of_ble_eq_true rfl⟩ hl.1 (Nat.le_of_ble_eq_true rfl) dX5_goOnProved_85 (fun H locs Z => ?_)
    obtain ⟨q88, h88, hf⟩ := bind_some hf
    refine krX5_192_X7_lambda_T1 F K E hA Z h88 ⟨Nat.le_of_ble_eq_true rfl, Nat.le_of_ble_eq_true rfl⟩ hl.1 (Nat.le_of_ble_eq_true rfl) dX5_goOnProved_88 (fun H locs Z => ?_)
    obtain ⟨q91, h91, hf⟩ := bind_some hf
    refine krX5_116_X5_provedBy F K E hA Z h91 ⟨Nat.le_of_ble_eq_true rfl, Nat.le_of_ble_eq_true rfl⟩ hl.1 (Nat.le_of_ble_eq_true rfl) dX5_goOnProved_91 (fun H locs Z => ?_)
    have hf := Option.some.inj hf
    subst hf
    exact ret_i F hr hk Z dX5_goOnProved_94
  have hf := if_f c8_1 hf
  by_cases c8_2 : q5.1 = 2
  · have hf := if_t c8_2 hf
    refine lv_tableIn (tgt := 95) hx hb dX5_goOnProved_8 (by rw [c8_2] <;> decide) (by rw [c8_2] <;> decide) (by rw [c8_2] <;> rfl) (by decide) ?_
    refine lv_aload_n hx hb dX5_goOnProved_95 rfl (lv_at hl 0 rfl) ?_
    refine grX5_41_23 F K Z dX5_goOnProved_96 ?_
    refine lv_iload_n hx hb dX5_goOnProved_99 rfl (lv_at hl 1 rfl) ?_
    refine lv_aload_n hx hb dX5_goOnProved_100 rfl (lv_at hl 0 rfl) ?_
    refine grX5_51_23 F K Z dX5_goOnProved_101 ?_
    obtain ⟨q104, h104, hf⟩ := bind_some hf
    refine krX5_93_X5_keep_44 F K E hA Z h104 ⟨Nat.le_of_ble_eq_true rfl, Nat.le_of_ble_eq_true rfl⟩ hl.1 (Nat.le_of_ble_eq_true rfl) dX5_goOnProved_104 (fun H locs Z => ?_)
    refine lv_aload_n hx hb dX5_goOnProved_107 rfl (lv_at hl 0 rfl) ?_
    refine grX5_23_23 F K Z dX5_goOnProved_108 ?_
    refine lv_iload_n hx hb dX5_goOnProved_111 rfl (lv_at hl 1 rfl) ?_
    refine lv_iconst (v := -1) hx hb dX5_goOnProved_112 (by decide) ?_
    refine lv_aload_n hx hb dX5_goOnProved_113 rfl (lv_at hl 0 rfl) ?_
    refine grX5_54_23 F K Z dX5_goOnProved_114 ?_
    refine lv_aload_n hx hb dX5_goOnProved_117 rfl (lv_at hl 0 rfl) ?_
    refine grX5_23_23 F K Z dX5_goOnProved_118 ?_
    refine lv_iload_n hx hb dX5_goOnProved_121 rfl (lv_at hl 1 rfl) ?_
    obtain ⟨q122, h122, hf⟩ := bind_some hf
    refine krX5_107_X6_goalOf F K E hA Z h122 ⟨Nat.le_of_ble_eq_true rfl, Nat.le_of_ble_eq_true rfl⟩ hl.1 (Nat.le_of_ble_eq_true rfl) dX5_goOnProved_122 (fun H locs Z => ?_)
    obtain ⟨q125, h125, hf⟩ := bind_some hf
    refine krX5_150_X1_secondOf_F0 F K E hA Z h125 ⟨Nat.le_of_ble_eq_true rfl, Nat.le_of_ble_eq_true rfl⟩ hl.1 (Nat.le_of_ble_eq_true rfl) dX5_goOnProved_125 (fun H locs Z => ?_)
    obtain ⟨q128, h128, hf⟩ := bind_some hf
    refine krX5_137_X6_follow F K E hA Z h128 ⟨Nat.le_of_ble_eq_true rfl, Nat.le_of_ble_eq_true rfl⟩ hl.1 (Nat.le_of_ble_eq_true rfl) dX5_goOnProved_128 (fun H locs Z => ?_)
    refine lv_aload_n hx hb dX5_goOnProved_131 rfl (lv_at hl 0 rfl) ?_
    refine lv_iload_n hx hb dX5_goOnProved_132 rfl (lv_at hl 1 rfl) ?_
    refine lv_iconst (v := 3) hx hb dX5_goOnProved_133 (by decide) ?_
    obtain ⟨q134, h134, hf⟩ := bind_some hf
    refine krX5_97_X5_waitFor F K E hA Z h134 ⟨Nat.le_of_ble_eq_true rfl, Nat.le_of_ble_eq_true rfl⟩ hl.1 (Nat.le_of_ble_eq_true rfl) dX5_goOnProved_134 (fun H locs Z => ?_)
    have hf := Option.some.inj hf
    subst hf
    exact ret_i F hr hk Z dX5_goOnProved_137
  have hf := if_f c8_2 hf
  by_cases c8_3 : q5.1 = 3
  · have hf := if_t c8_3 hf
    refine lv_tableIn (tgt := 138) hx hb dX5_goOnProved_8 (by rw [c8_3] <;> decide) (by rw [c8_3] <;> decide) (by rw [c8_3] <;> rfl) (by decide) ?_
    refine lv_aload_n hx hb dX5_goOnProved_138 rfl (lv_at hl 0 rfl) ?_
    refine lv_aload_n hx hb dX5_goOnProved_139 rfl (lv_at hl 0 rfl) ?_
    refine grX5_16_23 F K Z dX5_goOnProved_140 ?_
    refine lv_bipush (v := 80) hx hb dX5_goOnProved_143 (by decide) ?_
    refine lv_aload_n hx hb dX5_goOnProved_145 rfl (lv_at hl 0 rfl) ?_
    refine grX5_41_23 F K Z dX5_goOnProved_146 ?_
    refine lv_iload_n hx hb dX5_goOnProved_149 rfl (lv_at hl 1 rfl) ?_
    obtain ⟨q150, h150, hf⟩ := bind_some hf
    refine krX5_153_X5_kept_44 F K E hA Z h150 ⟨Nat.le_of_ble_eq_true rfl, Nat.le_of_ble_eq_true rfl⟩ hl.1 (Nat.le_of_ble_eq_true rfl) dX5_goOnProved_150 (fun H locs Z => ?_)
    refine lv_aload_n hx hb dX5_goOnProved_153 rfl (lv_at hl 0 rfl) ?_
    refine grX5_51_23 F K Z dX5_goOnProved_154 ?_
    obtain ⟨q157, h157, hf⟩ := bind_some hf
    refine krX5_178_X7_two_T1 F K E hA Z h157 ⟨Nat.le_of_ble_eq_true rfl, Nat.le_of_ble_eq_true rfl⟩ hl.1 (Nat.le_of_ble_eq_true rfl) dX5_goOnProved_157 (fun H locs Z => ?_)
    obtain ⟨q160, h160, hf⟩ := bind_some hf
    refine krX5_116_X5_provedBy F K E hA Z h160 ⟨Nat.le_of_ble_eq_true rfl, Nat.le_of_ble_eq_true rfl⟩ hl.1 (Nat.le_of_ble_eq_true rfl) dX5_goOnProved_160 (fun H locs Z => ?_)
    have hf := Option.some.inj hf
    subst hf
    exact ret_i F hr hk Z dX5_goOnProved_163
  have hf := if_f c8_3 hf
  by_cases c8_4 : q5.1 = 4
  · have hf := if_t c8_4 hf
    refine lv_tableIn (tgt := 164) hx hb dX5_goOnProved_8 (by rw [c8_4] <;> decide) (by rw [c8_4] <;> decide) (by rw [c8_4] <;> rfl) (by decide) ?_
    refine lv_aload_n hx hb dX5_goOnProved_164 rfl (lv_at hl 0 rfl) ?_
    refine lv_iload_n hx hb dX5_goOnProved_165 rfl (lv_at hl 1 rfl) ?_
    obtain ⟨q166, h166, hf⟩ := bind_some hf
    refine krX5_201_X5_beginRightCase F K E hA Z h166 ⟨Nat.le_of_ble_eq_true rfl, Nat.le_of_ble_eq_true rfl⟩ hl.1 (Nat.le_of_ble_eq_true rfl) dX5_goOnProved_166 (fun H locs Z => ?_)
    have hf := Option.some.inj hf
    subst hf
    exact ret_i F hr hk Z dX5_goOnProved_169
  have hf := if_f c8_4 hf
  by_cases c8_5 : q5.1 = 5
  · have hf := if_t c8_5 hf
    refine lv_tableIn (tgt := 170) hx hb dX5_goOnProved_8 (by rw [c8_5] <;> decide) (by rw [c8_5] <;> decide) (by rw [c8_5] <;> rfl) (by decide) ?_
    refine lv_aload_n hx hb dX5_goOnProved_170 rfl (lv_at hl 0 rfl) ?_
    refine grX5_23_23 F K Z dX5_goOnProved_171 ?_
    refine lv_iload_n hx hb dX5_goOnProved_174 rfl (lv_at hl 1 rfl) ?_
    refine lv_aload_n hx hb dX5_goOnProved_175 rfl (lv_at hl 0 rfl) ?_
    refine grX5_38_23 F K Z dX5_goOnProved_176 ?_
    refine lv_iload_n hx hb dX5_goOnProved_179 rfl (lv_at hl 1 rfl) ?_
    obtain ⟨q180, h180, hf⟩ := bind_some hf
    refine krX5_153_X5_kept_43 F K E hA Z h180 ⟨Nat.le_of_ble_eq_true rfl, Nat.le_of_ble_eq_true rfl⟩ hl.1 (Nat.le_of_ble_eq_true rfl) dX5_goOnProved_180 (fun H locs Z => ?_)
    obtain ⟨q183, h183, hf⟩ := bind_some hf
    refine krX5_113_X6_termAt F K E hA Z h183 ⟨Nat.le_of_ble_eq_true rfl, Nat.le_of_ble_eq_true rfl⟩ hl.1 (Nat.le_of_ble_eq_true rfl) dX5_goOnProved_183 (fun H locs Z => ?_)
    refine lv_istore_n (lv' := [(2, .int q183.1), (0, .ref (ad 23)), (1, .int x1)]) hx hb dX5_goOnProved_186 rfl hl (by decide) rfl (fun ls hl => ?_)
    refine lv_aload_n hx hb dX5_goOnProved_187 rfl (lv_at hl 1 rfl) ?_
    refine lv_aload_n hx hb dX5_goOnProved_188 rfl (lv_at hl 1 rfl) ?_
    refine grX5_16_23 F K Z dX5_goOnProved_189 ?_
    refine lv_bipush (v := 67) hx hb dX5_goOnProved_192 (by decide) ?_
    refine lv_iload_n hx hb dX5_goOnProved_194 rfl (lv_at hl 0 rfl) ?_
    refine lv_aload_n hx hb dX5_goOnProved_195 rfl (lv_at hl 1 rfl) ?_
    refine grX5_41_23 F K Z dX5_goOnProved_196 ?_
    refine lv_iload_n hx hb dX5_goOnProved_199 rfl (lv_at hl 2 rfl) ?_
    obtain ⟨q200, h200, hf⟩ := bind_some hf
    refine krX5_153_X5_kept_44 F K E hA Z h200 ⟨Nat.le_of_ble_eq_true rfl, Nat.le_of_ble_eq_true rfl⟩ hl.1 (Nat.le_of_ble_eq_true rfl) dX5_goOnProved_200 (fun H locs Z => ?_)
    refine lv_aload_n hx hb dX5_goOnProved_203 rfl (lv_at hl 1 rfl) ?_
    refine grX5_51_23 F K Z dX5_goOnProved_204 ?_
    refine lv_aload_n hx hb dX5_goOnProved_207 rfl (lv_at hl 1 rfl) ?_
    refine grX5_44_23 F K Z dX5_goOnProved_208 ?_
    refine lv_iload_n hx hb dX5_goOnProved_211 rfl (lv_at hl 2 rfl) ?_
    obtain ⟨q212, h212, hf⟩ := bind_some hf
    refine krX5_153_X5_kept_45 F K E hA Z h212 ⟨Nat.le_of_ble_eq_true rfl, Nat.le_of_ble_eq_true rfl⟩ hl.1 (Nat.le_of_ble_eq_true rfl) dX5_goOnProved_212 (fun H locs Z => ?_)
    obtain ⟨q215, h215, hf⟩ := bind_some hf
    refine krX5_204_X7_add_T1 F K E hA Z h215 ⟨Nat.le_of_ble_eq_true rfl, Nat.le_of_ble_eq_true rfl⟩ hl.1 (Nat.le_of_ble_eq_true rfl) dX5_goOnProved_215 (fun H locs Z => ?_)
    obtain ⟨q218, h218, hf⟩ := bind_some hf
    refine krX5_116_X5_provedBy F K E hA Z h218 ⟨Nat.le_of_ble_eq_true rfl, Nat.le_of_ble_eq_true rfl⟩ hl.1 (Nat.le_of_ble_eq_true rfl) dX5_goOnProved_218 (fun H locs Z => ?_)
    have hf := Option.some.inj hf
    subst hf
    exact ret_i F hr hk Z dX5_goOnProved_221
  have hf := if_f c8_5 hf
  by_cases c8_6 : q5.1 = 6
  · have hf := if_t c8_6 hf
    refine lv_tableIn (tgt := 222) hx hb dX5_goOnProved_8 (by rw [c8_6] <;> decide) (by rw [c8_6] <;> decide) (by rw [c8_6] <;> rfl) (by decide) ?_
    refine lv_aload_n hx hb dX5_goOnProved_222 rfl (lv_at hl 0 rfl) ?_
    refine lv_aload_n hx hb dX5_goOnProved_223 rfl (lv_at hl 0 rfl) ?_
    refine grX5_16_23 F K Z dX5_goOnProved_224 ?_
    refine lv_bipush (v := 73) hx hb dX5_goOnProved_227 (by decide) ?_
    refine lv_aload_n hx hb dX5_goOnProved_229 rfl (lv_at hl 0 rfl) ?_
    refine grX5_51_23 F K Z dX5_goOnProved_230 ?_
    obtain ⟨q233, h233, hf⟩ := bind_some hf
    refine krX5_119_X7_one_T1 F K E hA Z h233 ⟨Nat.le_of_ble_eq_true rfl, Nat.le_of_ble_eq_true rfl⟩ hl.1 (Nat.le_of_ble_eq_true rfl) dX5_goOnProved_233 (fun H locs Z => ?_)
    obtain ⟨q236, h236, hf⟩ := bind_some hf
    refine krX5_116_X5_provedBy F K E hA Z h236 ⟨Nat.le_of_ble_eq_true rfl, Nat.le_of_ble_eq_true rfl⟩ hl.1 (Nat.le_of_ble_eq_true rfl) dX5_goOnProved_236 (fun H locs Z => ?_)
    have hf := Option.some.inj hf
    subst hf
    exact ret_i F hr hk Z dX5_goOnProved_239
  have hf := if_f c8_6 hf
  by_cases c8_7 : q5.1 = 7
  · have hf := if_t c8_7 hf
    refine lv_tableIn (tgt := 240) hx hb dX5_goOnProved_8 (by rw [c8_7] <;> decide) (by rw [c8_7] <;> decide) (by rw [c8_7] <;> rfl) (by decide) ?_
    refine lv_aload_n hx hb dX5_goOnProved_240 rfl (lv_at hl 0 rfl) ?_
    refine lv_aload_n hx hb dX5_goOnProved_241 rfl (lv_at hl 0 rfl) ?_
    refine grX5_16_23 F K Z dX5_goOnProved_242 ?_
    refine lv_bipush (v := 74) hx hb dX5_goOnProved_245 (by decide) ?_
    refine lv_aload_n hx hb dX5_goOnProved_247 rfl (lv_at hl 0 rfl) ?_
    refine grX5_51_23 F K Z dX5_goOnProved_248 ?_
    obtain ⟨q251, h251, hf⟩ := bind_some hf
    refine krX5_119_X7_one_T1 F K E hA Z h251 ⟨Nat.le_of_ble_eq_true rfl, Nat.le_of_ble_eq_true rfl⟩ hl.1 (Nat.le_of_ble_eq_true rfl) dX5_goOnProved_251 (fun H locs Z => ?_)
    obtain ⟨q254, h254, hf⟩ := bind_some hf
    refine krX5_116_X5_provedBy F K E hA Z h254 ⟨Nat.le_of_ble_eq_true rfl, Nat.le_of_ble_eq_true rfl⟩ hl.1 (Nat.le_of_ble_eq_true rfl) dX5_goOnProved_254 (fun H locs Z => ?_)
    have hf := Option.some.inj hf
    subst hf
    exact ret_i F hr hk Z dX5_goOnProved_257
  have hf := if_f c8_7 hf
  by_cases c8_8 : q5.1 = 8
  · have hf := if_t c8_8 hf
    refine lv_tableIn (tgt := 258) hx hb dX5_goOnProved_8 (by rw [c8_8] <;> decide) (by rw [c8_8] <;> decide) (by rw [c8_8] <;> rfl) (by decide) ?_
    refine lv_aload_n hx hb dX5_goOnProved_258 rfl (lv_at hl 0 rfl) ?_
    refine lv_iload_n hx hb dX5_goOnProved_259 rfl (lv_at hl 1 rfl) ?_
    obtain ⟨q260, h260, hf⟩ := bind_some hf
    refine krX5_207_X5_beginAfterNested F K E hA Z h260 ⟨Nat.le_of_ble_eq_true rfl, Nat.le_of_ble_eq_true rfl⟩ hl.1 (Nat.le_of_ble_eq_true rfl) dX5_goOnProved_260 (fun H locs Z => ?_)
    have hf := Option.some.inj hf
    subst hf
    exact ret_i F hr hk Z dX5_goOnProved_263
  have hf := if_f c8_8 hf
  refine sw_tab (tgt := 264) hx hb dX5_goOnProved_8 (sw_any (fun j h1 h2 hj => ?_)) (by decide) ?_
  · rcases (show j = 1 ∨ j = 2 ∨ j = 3 ∨ j = 4 ∨ j = 5 ∨ j = 6 ∨ j = 7 ∨ j = 8 by omega) with rfl | rfl | rfl | rfl | rfl | rfl | rfl | rfl
    · exact absurd hj (lv_neT c8_1 (by decide))
    · exact absurd hj (lv_neT c8_2 (by decide))
    · exact absurd hj (lv_neT c8_3 (by decide))
    · exact absurd hj (lv_neT c8_4 (by decide))
    · exact absurd hj (lv_neT c8_5 (by decide))
    · exact absurd hj (lv_neT c8_6 (by decide))
    · exact absurd hj (lv_neT c8_7 (by decide))
    · exact absurd hj (lv_neT c8_8 (by decide))
  refine lv_iconst (v := 1) hx hb dX5_goOnProved_264 (by decide) ?_
  have hf := Option.some.inj hf
  subst hf
  exact ret_i F hr hk Z dX5_goOnProved_265
def f_X5_isReducible (n : Nat) (st : StT) (x1 : Int32) (x2 : Int32) : Option (Int32 × StT) := (f_X1_kindOf_F0 n st x1).bind fun q5 => (if q5.1 = (5 : Int32) then ((f_X1_firstOf_F0 n q5.2 x1).bind fun q40 => ((f_X1_kindOf_F0 n q40.2 q40.1).bind fun q51 => (if q51.1 = (2 : Int32) then ((f_X1_firstOf_F0 n q51.2 q40.1).bind fun q69 => (if ((x2.toUInt32 >>> (q69.1.toUInt32 &&& Int32.toUInt32 31)).toInt32 &&& (1 : Int32)) = (1 : Int32) then (some ((1 : Int32), q69.2)) else (some ((0 : Int32), q69.2)))) else (if q51.1 = (5 : Int32) then (some ((0 : Int32), q51.2)) else (some ((1 : Int32), q51.2)))))) else (if q5.1 = (1 : Int32) then (some ((1 : Int32), q5.2)) else (if q5.1 = (3 : Int32) then (some ((1 : Int32), q5.2)) else (if q5.1 = (4 : Int32) then (some ((1 : Int32), q5.2)) else (some ((0 : Int32), q5.2))))))
section
variable {p : Program} {l : Launch} {e : Env} {R : Room} {s : State} {m : MethodId} {args : Array Value} {below : List Frame} {meth : Method} {c : Code} {H : Heap} {locs : List Loc} {Q : State → Prop}
variable {cc : ByteArray} {nL pc : Nat} {ls : Array Slot} {rest : List Value} {D : va_G} {A : Nat → Prop} {cw : Cond} {ad : Nat → Nat} {cy : Nat → ClassId} {ee : EE} {st : StT} {own : String}
theorem grX5_61_23 (F : CallFix p m c cc nL s args (cw :: Gw) RX5) (K : va_K D vwCl (tyL cy) s) (Z : ZG D (wC ad cy st) A s H locs) (hd : decode cc pc = .ok (.getfield 61, 3)) (kk : W p l e R s m args below meth c H locs 0 0 Q (F0 m (pc + 3) ls (.int (st.1 20) :: rest))) : W p l e R s m args below meth c H locs 0 0 Q (F0 m pc ls (.ref (ad 23) :: rest)) :=
  va_get (D := D) (ci := 5) (C := RX5) (T := TX5) (N := 14) F.1 F.2.1 F.2.2.2.2 (fun w h => List.mem_cons_of_mem _ (inG_X5 w h)) F.2.2.2.1 K Z.1 23 rfl rfl 9 (by decide) (F.2.2.2.2 _ (List.mem_cons_of_mem _ wd127)) (fun _ h => h) rfl hd kk
theorem grX5_58_23 (F : CallFix p m c cc nL s args (cw :: Gw) RX5) (K : va_K D vwCl (tyL cy) s) (Z : ZG D (wC ad cy st) A s H locs) (hd : decode cc pc = .ok (.getfield 58, 3)) (kk : W p l e R s m args below meth c H locs 0 0 Q (F0 m (pc + 3) ls (.int (st.1 19) :: rest))) : W p l e R s m args below meth c H locs 0 0 Q (F0 m pc ls (.ref (ad 23) :: rest)) :=
  va_get (D := D) (ci := 5) (C := RX5) (T := TX5) (N := 14) F.1 F.2.1 F.2.2.2.2 (fun w h => List.mem_cons_of_mem _ (inG_X5 w h)) F.2.2.2.1 K Z.1 23 rfl rfl 8 (by decide) (F.2.2.2.2 _ (List.mem_cons_of_mem _ wd126)) (fun _ h => h) rfl hd kk
theorem grX5_64_23 (F : CallFix p m c cc nL s args (cw :: Gw) RX5) (K : va_K D vwCl (tyL cy) s) (Z : ZG D (wC ad cy st) A s H locs) (hd : decode cc pc = .ok (.getfield 64, 3)) (kk : W p l e R s m args below meth c H locs 0 0 Q (F0 m (pc + 3) ls (.int (st.1 21) :: rest))) : W p l e R s m args below meth c H locs 0 0 Q (F0 m pc ls (.ref (ad 23) :: rest)) :=
  va_get (D := D) (ci := 5) (C := RX5) (T := TX5) (N := 14) F.1 F.2.1 F.2.2.2.2 (fun w h => List.mem_cons_of_mem _ (inG_X5 w h)) F.2.2.2.1 K Z.1 23 rfl rfl 10 (by decide) (F.2.2.2.2 _ (List.mem_cons_of_mem _ wd128)) (fun _ h => h) rfl hd kk
end
set_option maxRecDepth 100000 in
set_option maxHeartbeats 4000000 in
theorem c_X5_isReducible {l : Launch} {D : va_G} {ad : Nat → Nat} {cy : Nat → ClassId} {ee : EE} {n : Nat} {st : StT} {x1 : Int32} {x2 : Int32} {res : (Int32 × StT)} (hf : f_X5_isReducible n st x1 x2 = some res) : CT l yX5_isReducible cX5_isReducible 6 (some .boolean) 2 42 D cy ee (wC ad cy st) (wC ad cy res.2) [.ref (ad 23), .int x1, .int x2] (some (.int res.1)) := by
  refine CT.of (by decide +kernel) (Nat.le_of_ble_eq_true rfl) ?_
  intro p e s m args below meth c A F hr hk K E hA Z ls hl
  have hl : lv_has ls 6 [(0, .ref (ad 23)), (1, .int x1), (2, .int x2)] := hl
  have hx := F.1
  have hb := F.2.1
  unfold f_X5_isReducible at hf
  refine lv_aload_n hx hb dX5_isReducible_0 rfl (lv_at hl 0 rfl) ?_
  refine grX5_54_23 F K Z dX5_isReducible_1 ?_
  refine lv_iload_n hx hb dX5_isReducible_4 rfl (lv_at hl 1 rfl) ?_
  obtain ⟨q5, h5, hf⟩ := bind_some hf
  refine krX5_126_X1_kindOf_F0 F K E hA Z h5 ⟨Nat.le_of_ble_eq_true rfl, Nat.le_of_ble_eq_true rfl⟩ hl.1 (Nat.le_of_ble_eq_true rfl) dX5_isReducible_5 (fun H locs Z => ?_)
  refine lv_istore_n (lv' := [(3, .int q5.1), (0, .ref (ad 23)), (1, .int x1), (2, .int x2)]) hx hb dX5_isReducible_8 rfl hl (by decide) rfl (fun ls hl => ?_)
  refine lv_iload_n hx hb dX5_isReducible_9 rfl (lv_at hl 0 rfl) ?_
  refine lv_iconst (v := 5) hx hb dX5_isReducible_10 (by decide) ?_
  refine lv_icmp_eq (tgt := 35) hx hb dX5_isReducible_11 (by decide) (fun c11 => ?_) (fun c11 => ?_)
  · have hf := if_t c11 hf
    refine lv_aload_n hx hb dX5_isReducible_35 rfl (lv_at hl 1 rfl) ?_
    refine grX5_54_23 F K Z dX5_isReducible_36 ?_
    refine lv_iload_n hx hb dX5_isReducible_39 rfl (lv_at hl 2 rfl) ?_
    obtain ⟨q40, h40, hf⟩ := bind_some hf
    refine krX5_134_X1_firstOf_F0 F K E hA Z h40 ⟨Nat.le_of_ble_eq_true rfl, Nat.le_of_ble_eq_true rfl⟩ hl.1 (Nat.le_of_ble_eq_true rfl) dX5_isReducible_40 (fun H locs Z => ?_)
    refine lv_istore (lv' := [(4, .int q40.1), (3, .int q5.1), (0, .ref (ad 23)), (1, .int x1), (2, .int x2)]) hx hb dX5_isReducible_43 hl (by decide) rfl (fun ls hl => ?_)
    refine lv_aload_n hx hb dX5_isReducible_45 rfl (lv_at hl 2 rfl) ?_
    refine grX5_54_23 F K Z dX5_isReducible_46 ?_
    refine lv_iload hx hb dX5_isReducible_49 (lv_at hl 0 rfl) ?_
    obtain ⟨q51, h51, hf⟩ := bind_some hf
    refine krX5_126_X1_kindOf_F0 F K E hA Z h51 ⟨Nat.le_of_ble_eq_true rfl, Nat.le_of_ble_eq_true rfl⟩ hl.1 (Nat.le_of_ble_eq_true rfl) dX5_isReducible_51 (fun H locs Z => ?_)
    refine lv_istore (lv' := [(5, .int q51.1), (4, .int q40.1), (3, .int q5.1), (0, .ref (ad 23)), (1, .int x1), (2, .int x2)]) hx hb dX5_isReducible_54 hl (by decide) rfl (fun ls hl => ?_)
    refine lv_iload hx hb dX5_isReducible_56 (lv_at hl 0 rfl) ?_
    refine lv_iconst (v := 2) hx hb dX5_isReducible_58 (by decide) ?_
    refine lv_icmp_ne (tgt := 85) hx hb dX5_isReducible_59 (by decide) (fun c59 => ?_) (fun c59 => ?_)
    · have hf := if_f c59 hf
      refine lv_iload hx hb dX5_isReducible_85 (lv_at hl 0 rfl) ?_
      refine lv_iconst (v := 5) hx hb dX5_isReducible_87 (by decide) ?_
      refine lv_icmp_eq (tgt := 95) hx hb dX5_isReducible_88 (by decide) (fun c88 => ?_) (fun c88 => ?_)
      · have hf := if_t c88 hf
        refine lv_iconst (v := 0) hx hb dX5_isReducible_95 (by decide) ?_
        have hf := Option.some.inj hf
        subst hf
        exact ret_z F hr hk Z rfl dX5_isReducible_96
      have hf := if_f c88 hf
      refine lv_iconst (v := 1) hx hb dX5_isReducible_91 (by decide) ?_
      refine lv_goto (tgt := 96) hx hb dX5_isReducible_92 (by decide) ?_
      have hf := Option.some.inj hf
      subst hf
      exact ret_z F hr hk Z rfl dX5_isReducible_96
    have hf := if_t c59 hf
    refine lv_iload_n hx hb dX5_isReducible_62 rfl (lv_at hl 5 rfl) ?_
    refine lv_aload_n hx hb dX5_isReducible_63 rfl (lv_at hl 3 rfl) ?_
    refine grX5_54_23 F K Z dX5_isReducible_64 ?_
    refine lv_iload hx hb dX5_isReducible_67 (lv_at hl 1 rfl) ?_
    obtain ⟨q69, h69, hf⟩ := bind_some hf
    refine krX5_134_X1_firstOf_F0 F K E hA Z h69 ⟨Nat.le_of_ble_eq_true rfl, Nat.le_of_ble_eq_true rfl⟩ hl.1 (Nat.le_of_ble_eq_true rfl) dX5_isReducible_69 (fun H locs Z => ?_)
    refine lv_iushr hx hb dX5_isReducible_72 rfl ?_
    refine lv_iconst (v := 1) hx hb dX5_isReducible_73 (by decide) ?_
    refine lv_iand hx hb dX5_isReducible_74 ?_
    refine lv_iconst (v := 1) hx hb dX5_isReducible_75 (by decide) ?_
    refine lv_icmp_ne (tgt := 83) hx hb dX5_isReducible_76 (by decide) (fun c76 => ?_) (fun c76 => ?_)
    · have hf := if_f c76 hf
      refine lv_iconst (v := 0) hx hb dX5_isReducible_83 (by decide) ?_
      have hf := Option.some.inj hf
      subst hf
      exact ret_z F hr hk Z rfl dX5_isReducible_84
    have hf := if_t c76 hf
    refine lv_iconst (v := 1) hx hb dX5_isReducible_79 (by decide) ?_
    refine lv_goto (tgt := 84) hx hb dX5_isReducible_80 (by decide) ?_
    have hf := Option.some.inj hf
    subst hf
    exact ret_z F hr hk Z rfl dX5_isReducible_84
  have hf := if_f c11 hf
  refine lv_iload_n hx hb dX5_isReducible_14 rfl (lv_at hl 0 rfl) ?_
  refine lv_iconst (v := 1) hx hb dX5_isReducible_15 (by decide) ?_
  refine lv_icmp_eq (tgt := 29) hx hb dX5_isReducible_16 (by decide) (fun c16 => ?_) (fun c16 => ?_)
  · have hf := if_t c16 hf
    refine lv_iconst (v := 1) hx hb dX5_isReducible_29 (by decide) ?_
    refine lv_goto (tgt := 34) hx hb dX5_isReducible_30 (by decide) ?_
    have hf := Option.some.inj hf
    subst hf
    exact ret_z F hr hk Z rfl dX5_isReducible_34
  have hf := if_f c16 hf
  refine lv_iload_n hx hb dX5_isReducible_19 rfl (lv_at hl 0 rfl) ?_
  refine lv_iconst (v := 3) hx hb dX5_isReducible_20 (by decide) ?_
  refine lv_icmp_eq (tgt := 29) hx hb dX5_isReducible_21 (by decide) (fun c21 => ?_) (fun c21 => ?_)
  · have hf := if_t c21 hf
    refine lv_iconst (v := 1) hx hb dX5_isReducible_29 (by decide) ?_
    refine lv_goto (tgt := 34) hx hb dX5_isReducible_30 (by decide) ?_
    have hf := Option.some.inj hf
    subst hf
    exact ret_z F hr hk Z rfl dX5_isReducible_34
  have hf := if_f c21 hf
  refine lv_iload_n hx hb dX5_isReducible_24 rfl (lv_at hl 0 rfl) ?_
  refine lv_iconst (v := 4) hx hb dX5_isReducible_25 (by decide) ?_
  refine lv_icmp_ne (tgt := 33) hx hb dX5_isReducible_26 (by decide) (fun c26 => ?_) (fun c26 => ?_)
  · have hf := if_f c26 hf
    refine lv_iconst (v := 0) hx hb dX5_isReducible_33 (by decide) ?_
    have hf := Option.some.inj hf
    subst hf
    exact ret_z F hr hk Z rfl dX5_isReducible_34
  have hf := if_t c26 hf
  refine lv_iconst (v := 1) hx hb dX5_isReducible_29 (by decide) ?_
  refine lv_goto (tgt := 34) hx hb dX5_isReducible_30 (by decide) ?_
  have hf := Option.some.inj hf
  subst hf
  exact ret_z F hr hk Z rfl dX5_isReducible_34
def f_X5_firstReducible_8 (n : Nat) : Nat → StT → Int32 → Int32 → Int32 → Option (Int32 × StT)
  | 0, _, _, _, _ => none
  | k + 1, st, x1, x2, x3 => (f_X6_sizeOf n st x1).bind fun q14 => (if q14.1 ≤ x3 then (some ((-1 : Int32), q14.2)) else ((f_X6_formulaAt n q14.2 x1 x3).bind fun q27 => ((f_X5_isReducible n q27.2 q27.1 x2).bind fun q31 => (if q31.1 = 0 then (f_X5_firstReducible_8 n k q31.2 x1 x2 (x3 + (1 : Int32))) else (some (x3, q31.2))))))
def f_X5_firstReducible (n : Nat) (st : StT) (x1 : Int32) : Option (Int32 × StT) := (f_X5_variablesIn n st x1).bind fun q2 => (f_X5_firstReducible_8 n n q2.2 x1 q2.1 (0 : Int32))
theorem wd245 : Cond.methodLink RX5 170 yX5_isReducible ∈ Gw := gT4 (List.mem_of_getElem? (i := 166) rfl) rfl
theorem wd246 : Cond.code yX5_isReducible prog_7_method_12_code 6 (some .boolean) ∈ Gw := gT4 (List.mem_of_getElem? (i := 169) rfl) rfl
theorem wd247 : Cond.instanceMethod yX5_isReducible ∈ Gw := gT4 (List.mem_of_getElem? (i := 168) rfl) rfl
theorem wd248 : Cond.selects RX5 yX5_isReducible yX5_isReducible ∈ Gw := gP3 (q := (yX5_isReducible, 14)) (List.mem_of_getElem? (i := 2) rfl)
section
variable {p : Program} {l : Launch} {e : Env} {R : Room} {s : State} {m : MethodId} {args : Array Value} {below : List Frame} {meth : Method} {c : Code} {H : Heap} {locs : List Loc} {Q : State → Prop}
variable {cc : ByteArray} {nL pc : Nat} {ls : Array Slot} {rest : List Value} {D : va_G} {A : Nat → Prop} {cw : Cond} {ad : Nat → Nat} {cy : Nat → ClassId} {ee : EE} {st : StT} {own : String}
theorem krX5_170_X5_isReducible {n : Nat} {a0 : Int32} {a1 : Int32} {q : (Int32 × StT)} (F : CallFix p m c cc nL s args (cw :: Gw) RX5) (K : va_K D vwCl (tyL cy) s) (E : EV ee A s s.heap) (hA : ∀ q, s.heap.size ≤ q → A q) (Z : ZG D (wC ad cy st) A s H locs) (hf : f_X5_isReducible n st a0 a1 = some q) (hR : 3 ≤ R.frames ∧ 67 ≤ R.locals) (hl : ls.size = nL) (hst : (rest.map fun v => v.category).sum ≤ 8) (hd : decode cc pc = .ok (.invokevirtual 170, 3)) (kk : ∀ (H1 : Heap) (locs1 : List Loc), ZG D (wC ad cy q.2) A s H1 locs1 → W p l e R s m args below meth c H1 locs1 0 0 Q (F0 m (pc + 3) ls (.int q.1 :: rest))) : W p l e R s m args below meth c H locs 0 0 Q (F0 m pc ls (.int a1 :: .int a0 :: .ref (ad 23) :: rest)) :=
  call_V (q := (RX5, TX5, 14)) (n := 2) (As := [.int a0, .int a1]) (rv := some (.int q.1)) 23 5 F K E hA Z (c_X5_isReducible (l := l) (D := D) (ad := ad) (cy := cy) (ee := ee) hf) ⟨wd246, wd245, wd247, wd248, wd141⟩ (by decide +kernel) rfl rfl hR rfl hl hst hd kk
end
set_option maxRecDepth 100000 in
set_option maxHeartbeats 4000000 in
theorem b_X5_firstReducible_8 {p : Program} {l : Launch} {e : Env} {s : State} {m : MethodId} {args : Array Value} {below : List Frame} {meth : Method} {c : Code} {D : va_G} {A : Nat → Prop} {ad : Nat → Nat} {cy : Nat → ClassId} {ee : EE} {n : Nat} {res : (Int32 × StT)} (F : CallFix p m c cX5_firstReducible 4 s args (Cond.code yX5_firstReducible cX5_firstReducible 4 (some .int) :: Gw) yX5_firstReducible.cls) (hr : meth.sig.returnType = (some .int)) (hk : meth.locks = false) (K : va_K D vwCl (tyL cy) s) (E : EV ee A s s.heap) (hA : ∀ q, s.heap.size ≤ q → A q) : ∀ (k : Nat) (st : StT) (x1 : Int32) (x2 : Int32) (x3 : Int32), f_X5_firstReducible_8 n k st x1 x2 x3 = some res → ∀ (H : Heap) (locs : List Loc) (ls : Array Slot), ZG D (wC ad cy st) A s H locs → lv_has ls 4 [(0, .ref (ad 23)), (1, .int x1), (2, .int x2), (3, .int x3)] → W p l e { frames := 3, cells := 0, slots := 0, locals := 68 } s m args below meth c H locs 0 0 (MQ below (QC D (some (.int res.1)) (wC ad cy res.2) A) args s 0 0 A) (F0 m 8 ls []) := by
  have hx := F.1
  have hb := F.2.1
  intro k
  induction k with
  | zero =>
    intro st x1 x2 x3 hf
    exact absurd hf (by simp [f_X5_firstReducible_8])
  | succ k ih =>
    intro st x1 x2 x3 hf H locs ls Z hl
    rw [f_X5_firstReducible_8] at hf
    refine lv_iload_n hx hb dX5_firstReducible_8 rfl (lv_at hl 3 rfl) ?_
    refine lv_aload_n hx hb dX5_firstReducible_9 rfl (lv_at hl 0 rfl) ?_
    refine grX5_23_23 F K Z dX5_firstReducible_10 ?_
    refine lv_iload_n hx hb dX5_firstReducible_13 rfl (lv_at hl 1 rfl) ?_
    obtain ⟨q14, h14, hf⟩ := bind_some hf
    refine krX5_161_X6_sizeOf F K E hA Z h14 ⟨Nat.le_of_ble_eq_true rfl, Nat.le_of_ble_eq_true rfl⟩ hl.1 (Nat.le_of_ble_eq_true rfl) dX5_firstReducible_14 (fun H locs Z => ?_)
    refine lv_icmp_ge (tgt := 45) hx hb dX5_firstReducible_17 (by decide) (fun c17 => ?_) (fun c17 => ?_)
    · have hf := if_t c17 hf
      refine lv_iconst (v := -1) hx hb dX5_firstReducible_45 (by decide) ?_
      have hf := Option.some.inj hf
      subst hf
      exact ret_i F hr hk Z dX5_firstReducible_46
    have hf := if_f c17 hf
    refine lv_aload_n hx hb dX5_firstReducible_20 rfl (lv_at hl 0 rfl) ?_
    refine lv_aload_n hx hb dX5_firstReducible_21 rfl (lv_at hl 0 rfl) ?_
    refine grX5_23_23 F K Z dX5_firstReducible_22 ?_
    refine lv_iload_n hx hb dX5_firstReducible_25 rfl (lv_at hl 1 rfl) ?_
    refine lv_iload_n hx hb dX5_firstReducible_26 rfl (lv_at hl 3 rfl) ?_
    obtain ⟨q27, h27, hf⟩ := bind_some hf
    refine krX5_164_X6_formulaAt F K E hA Z h27 ⟨Nat.le_of_ble_eq_true rfl, Nat.le_of_ble_eq_true rfl⟩ hl.1 (Nat.le_of_ble_eq_true rfl) dX5_firstReducible_27 (fun H locs Z => ?_)
    refine lv_iload_n hx hb dX5_firstReducible_30 rfl (lv_at hl 2 rfl) ?_
    obtain ⟨q31, h31, hf⟩ := bind_some hf
    refine krX5_170_X5_isReducible F K E hA Z h31 ⟨Nat.le_of_ble_eq_true rfl, Nat.le_of_ble_eq_true rfl⟩ hl.1 (Nat.le_of_ble_eq_true rfl) dX5_firstReducible_31 (fun H locs Z => ?_)
    refine lv_if_eq (tgt := 39) hx hb dX5_firstReducible_34 (by decide) (fun c34 => ?_) (fun c34 => ?_)
    · have hf := if_t c34 hf
      refine lv_iinc (v := (x3 + (1 : Int32))) (lv' := [(3, .int (x3 + (1 : Int32))), (0, .ref (ad 23)), (1, .int x1), (2, .int x2)]) hx hb dX5_firstReducible_39 hl (k := 3) rfl (congrArg (fun z => x3 + z) (by decide)) (by decide) rfl (fun ls hl => ?_)
      refine lv_goto (tgt := 8) hx hb dX5_firstReducible_42 (by decide) ?_
      exact ih _ _ _ _ hf _ _ _ Z (lv_sub hl [1, 2, 3, 0] rfl)
    have hf := if_f c34 hf
    refine lv_iload_n hx hb dX5_firstReducible_37 rfl (lv_at hl 3 rfl) ?_
    have hf := Option.some.inj hf
    subst hf
    exact ret_i F hr hk Z dX5_firstReducible_38
set_option maxRecDepth 100000 in
set_option maxHeartbeats 4000000 in
theorem c_X5_firstReducible {l : Launch} {D : va_G} {ad : Nat → Nat} {cy : Nat → ClassId} {ee : EE} {n : Nat} {st : StT} {x1 : Int32} {res : (Int32 × StT)} (hf : f_X5_firstReducible n st x1 = some res) : CT l yX5_firstReducible cX5_firstReducible 4 (some .int) 3 68 D cy ee (wC ad cy st) (wC ad cy res.2) [.ref (ad 23), .int x1] (some (.int res.1)) := by
  refine CT.of (by decide +kernel) (Nat.le_of_ble_eq_true rfl) ?_
  intro p e s m args below meth c A F hr hk K E hA Z ls hl
  have hl : lv_has ls 4 [(0, .ref (ad 23)), (1, .int x1)] := hl
  have hx := F.1
  have hb := F.2.1
  unfold f_X5_firstReducible at hf
  refine lv_aload_n hx hb dX5_firstReducible_0 rfl (lv_at hl 0 rfl) ?_
  refine lv_iload_n hx hb dX5_firstReducible_1 rfl (lv_at hl 1 rfl) ?_
  obtain ⟨q2, h2, hf⟩ := bind_some hf
  refine krX5_167_X5_variablesIn F K E hA Z h2 ⟨Nat.le_of_ble_eq_true rfl, Nat.le_of_ble_eq_true rfl⟩ hl.1 (Nat.le_of_ble_eq_true rfl) dX5_firstReducible_2 (fun H locs Z => ?_)
  refine lv_istore_n (lv' := [(2, .int q2.1), (0, .ref (ad 23)), (1, .int x1)]) hx hb dX5_firstReducible_5 rfl hl (by decide) rfl (fun ls hl => ?_)
  refine lv_iconst (v := 0) hx hb dX5_firstReducible_6 (by decide) ?_
  refine lv_istore_n (lv' := [(3, .int (0 : Int32)), (2, .int q2.1), (0, .ref (ad 23)), (1, .int x1)]) hx hb dX5_firstReducible_7 rfl hl (by decide) rfl (fun ls hl => ?_)
  exact b_X5_firstReducible_8 F hr hk K E hA _ _ _ _ _ hf _ _ _ Z (lv_sub hl [2, 3, 1, 0] rfl)
def f_X5_comesCurried_54 (n : Nat) (st : StT) (x1 : Int32) (x4 : Int32) (x5 : Int32) (x6 : Int32) (y0 : Int32) : Option (Int32 × StT) := if 0 ≤ y0 then ((f_X7_hypothesis_T1 n st (0 : Int32)).bind fun q68 => ((f_X7_hypothesis_T1 n q68.2 (0 : Int32)).bind fun q78 => ((f_X7_two_T1 n q78.2 (80 : Int32) q68.1 q78.1).bind fun q101 => ((f_X7_two_T1 n q101.2 (65 : Int32) x4 q101.1).bind fun q104 => ((f_X7_lambda_T1 n q104.2 x6 q104.1 q78.1).bind fun q132 => ((f_X7_lambda_T1 n q132.2 x5 q132.1 q68.1).bind fun q137 => ((f_X6_comes n q137.2 x1 y0 q137.1).bind fun q140 => (if isZ q140.1 = true then some (q140.1, q140.2) else none)))))))) else (some ((0 : Int32), st))
def f_X5_comesCurried (n : Nat) (st : StT) (x1 : Int32) (x2 : Int32) (x3 : Int32) (x4 : Int32) : Option (Int32 × StT) := (f_X1_firstOf_F0 n st x2).bind fun q5 => ((f_X1_secondOf_F0 n q5.2 x2).bind fun q15 => ((f_X1_joined_F0 n q15.2 (5 : Int32) q15.1 x3).bind fun q28 => (if 0 ≤ q28.1 then ((f_X1_joined_F0 n q28.2 (5 : Int32) q5.1 q28.1).bind fun q51 => (f_X5_comesCurried_54 n q51.2 x1 x4 q5.1 q15.1 q51.1)) else (f_X5_comesCurried_54 n q28.2 x1 x4 q5.1 q15.1 (-1 : Int32)))))
set_option maxRecDepth 100000 in
set_option maxHeartbeats 4000000 in
theorem b_X5_comesCurried_54 {p : Program} {l : Launch} {e : Env} {s : State} {m : MethodId} {args : Array Value} {below : List Frame} {meth : Method} {c : Code} {D : va_G} {A : Nat → Prop} {ad : Nat → Nat} {cy : Nat → ClassId} {ee : EE} {n : Nat} {res : (Int32 × StT)} (F : CallFix p m c cX5_comesCurried 12 s args (Cond.code yX5_comesCurried cX5_comesCurried 12 (some .boolean) :: Gw) yX5_comesCurried.cls) (hr : meth.sig.returnType = (some .boolean)) (hk : meth.locks = false) (K : va_K D vwCl (tyL cy) s) (E : EV ee A s s.heap) (hA : ∀ q, s.heap.size ≤ q → A q) : ∀ (st : StT) (x1 : Int32) (x4 : Int32) (x5 : Int32) (x6 : Int32) (y0 : Int32), f_X5_comesCurried_54 n st x1 x4 x5 x6 y0 = some res → ∀ (H : Heap) (locs : List Loc) (ls : Array Slot), ZG D (wC ad cy st) A s H locs → lv_has ls 12 [(0, .ref (ad 23)), (1, .int x1), (4, .int x4), (5, .int x5), (6, .int x6)] → W p l e { frames := 3, cells := 0, slots := 0, locals := 68 } s m args below meth c H locs 0 0 (MQ below (QC D (some (.int res.1)) (wC ad cy res.2) A) args s 0 0 A) (F0 m 54 ls [.int y0]) := by
  have hx := F.1
  have hb := F.2.1
  intro st x1 x4 x5 x6 y0 hf H locs ls Z hl
  unfold f_X5_comesCurried_54 at hf
  refine lv_istore (lv' := [(8, .int y0), (0, .ref (ad 23)), (1, .int x1), (4, .int x4), (5, .int x5), (6, .int x6)]) hx hb dX5_comesCurried_54 hl (by decide) rfl (fun ls hl => ?_)
  refine lv_iload hx hb dX5_comesCurried_56 (lv_at hl 0 rfl) ?_
  refine lv_if_ge (tgt := 63) hx hb dX5_comesCurried_58 (by decide) (fun c58 => ?_) (fun c58 => ?_)
  · have hf := if_t c58 hf
    refine lv_aload_n hx hb dX5_comesCurried_63 rfl (lv_at hl 1 rfl) ?_
    refine grX5_16_23 F K Z dX5_comesCurried_64 ?_
    refine lv_iconst (v := 0) hx hb dX5_comesCurried_67 (by decide) ?_
    obtain ⟨q68, h68, hf⟩ := bind_some hf
    refine krX5_77_X7_hypothesis_T1 F K E hA Z h68 ⟨Nat.le_of_ble_eq_true rfl, Nat.le_of_ble_eq_true rfl⟩ hl.1 (Nat.le_of_ble_eq_true rfl) dX5_comesCurried_68 (fun H locs Z => ?_)
    refine lv_istore (lv' := [(9, .int q68.1), (8, .int y0), (0, .ref (ad 23)), (1, .int x1), (4, .int x4), (5, .int x5), (6, .int x6)]) hx hb dX5_comesCurried_71 hl (by decide) rfl (fun ls hl => ?_)
    refine lv_aload_n hx hb dX5_comesCurried_73 rfl (lv_at hl 2 rfl) ?_
    refine grX5_16_23 F K Z dX5_comesCurried_74 ?_
    refine lv_iconst (v := 0) hx hb dX5_comesCurried_77 (by decide) ?_
    obtain ⟨q78, h78, hf⟩ := bind_some hf
    refine krX5_77_X7_hypothesis_T1 F K E hA Z h78 ⟨Nat.le_of_ble_eq_true rfl, Nat.le_of_ble_eq_true rfl⟩ hl.1 (Nat.le_of_ble_eq_true rfl) dX5_comesCurried_78 (fun H locs Z => ?_)
    refine lv_istore (lv' := [(10, .int q78.1), (9, .int q68.1), (8, .int y0), (0, .ref (ad 23)), (1, .int x1), (4, .int x4), (5, .int x5), (6, .int x6)]) hx hb dX5_comesCurried_81 hl (by decide) rfl (fun ls hl => ?_)
    refine lv_aload_n hx hb dX5_comesCurried_83 rfl (lv_at hl 3 rfl) ?_
    refine grX5_16_23 F K Z dX5_comesCurried_84 ?_
    refine lv_bipush (v := 65) hx hb dX5_comesCurried_87 (by decide) ?_
    refine lv_iload hx hb dX5_comesCurried_89 (lv_at hl 5 rfl) ?_
    refine lv_aload_n hx hb dX5_comesCurried_91 rfl (lv_at hl 3 rfl) ?_
    refine grX5_16_23 F K Z dX5_comesCurried_92 ?_
    refine lv_bipush (v := 80) hx hb dX5_comesCurried_95 (by decide) ?_
    refine lv_iload hx hb dX5_comesCurried_97 (lv_at hl 1 rfl) ?_
    refine lv_iload hx hb dX5_comesCurried_99 (lv_at hl 0 rfl) ?_
    obtain ⟨q101, h101, hf⟩ := bind_some hf
    refine krX5_178_X7_two_T1 F K E hA Z h101 ⟨Nat.le_of_ble_eq_true rfl, Nat.le_of_ble_eq_true rfl⟩ hl.1 (Nat.le_of_ble_eq_true rfl) dX5_comesCurried_101 (fun H locs Z => ?_)
    obtain ⟨q104, h104, hf⟩ := bind_some hf
    refine krX5_178_X7_two_T1 F K E hA Z h104 ⟨Nat.le_of_ble_eq_true rfl, Nat.le_of_ble_eq_true rfl⟩ hl.1 (Nat.le_of_ble_eq_true rfl) dX5_comesCurried_104 (fun H locs Z => ?_)
    refine lv_istore (lv' := [(11, .int q104.1), (10, .int q78.1), (9, .int q68.1), (8, .int y0), (0, .ref (ad 23)), (1, .int x1), (4, .int x4), (5, .int x5), (6, .int x6)]) hx hb dX5_comesCurried_107 hl (by decide) rfl (fun ls hl => ?_)
    refine lv_aload_n hx hb dX5_comesCurried_109 rfl (lv_at hl 4 rfl) ?_
    refine grX5_23_23 F K Z dX5_comesCurried_110 ?_
    refine lv_iload_n hx hb dX5_comesCurried_113 rfl (lv_at hl 5 rfl) ?_
    refine lv_iload hx hb dX5_comesCurried_114 (lv_at hl 3 rfl) ?_
    refine lv_aload_n hx hb dX5_comesCurried_116 rfl (lv_at hl 4 rfl) ?_
    refine grX5_16_23 F K Z dX5_comesCurried_117 ?_
    refine lv_iload hx hb dX5_comesCurried_120 (lv_at hl 7 rfl) ?_
    refine lv_aload_n hx hb dX5_comesCurried_122 rfl (lv_at hl 4 rfl) ?_
    refine grX5_16_23 F K Z dX5_comesCurried_123 ?_
    refine lv_iload hx hb dX5_comesCurried_126 (lv_at hl 8 rfl) ?_
    refine lv_iload hx hb dX5_comesCurried_128 (lv_at hl 0 rfl) ?_
    refine lv_iload hx hb dX5_comesCurried_130 (lv_at hl 1 rfl) ?_
    obtain ⟨q132, h132, hf⟩ := bind_some hf
    refine krX5_192_X7_lambda_T1 F K E hA Z h132 ⟨Nat.le_of_ble_eq_true rfl, Nat.le_of_ble_eq_true rfl⟩ hl.1 (Nat.le_of_ble_eq_true rfl) dX5_comesCurried_132 (fun H locs Z => ?_)
    refine lv_iload hx hb dX5_comesCurried_135 (lv_at hl 2 rfl) ?_
    obtain ⟨q137, h137, hf⟩ := bind_some hf
    refine krX5_192_X7_lambda_T1 F K E hA Z h137 ⟨Nat.le_of_ble_eq_true rfl, Nat.le_of_ble_eq_true rfl⟩ hl.1 (Nat.le_of_ble_eq_true rfl) dX5_comesCurried_137 (fun H locs Z => ?_)
    obtain ⟨q140, h140, hf⟩ := bind_some hf
    refine krX5_81_X6_comes F K E hA Z h140 ⟨Nat.le_of_ble_eq_true rfl, Nat.le_of_ble_eq_true rfl⟩ hl.1 (Nat.le_of_ble_eq_true rfl) dX5_comesCurried_140 (fun H locs Z => ?_)
    obtain ⟨i143, hf⟩ := if_some hf
    have hf := Option.some.inj hf
    subst hf
    exact ret_z F hr hk Z i143 dX5_comesCurried_143
  have hf := if_f c58 hf
  refine lv_iconst (v := 0) hx hb dX5_comesCurried_61 (by decide) ?_
  have hf := Option.some.inj hf
  subst hf
  exact ret_z F hr hk Z rfl dX5_comesCurried_62
set_option maxRecDepth 100000 in
set_option maxHeartbeats 4000000 in
theorem c_X5_comesCurried {l : Launch} {D : va_G} {ad : Nat → Nat} {cy : Nat → ClassId} {ee : EE} {n : Nat} {st : StT} {x1 : Int32} {x2 : Int32} {x3 : Int32} {x4 : Int32} {res : (Int32 × StT)} (hf : f_X5_comesCurried n st x1 x2 x3 x4 = some res) : CT l yX5_comesCurried cX5_comesCurried 12 (some .boolean) 3 68 D cy ee (wC ad cy st) (wC ad cy res.2) [.ref (ad 23), .int x1, .int x2, .int x3, .int x4] (some (.int res.1)) := by
  refine CT.of (by decide +kernel) (Nat.le_of_ble_eq_true rfl) ?_
  intro p e s m args below meth c A F hr hk K E hA Z ls hl
  have hl : lv_has ls 12 [(0, .ref (ad 23)), (1, .int x1), (2, .int x2), (3, .int x3), (4, .int x4)] := hl
  have hx := F.1
  have hb := F.2.1
  unfold f_X5_comesCurried at hf
  refine lv_aload_n hx hb dX5_comesCurried_0 rfl (lv_at hl 0 rfl) ?_
  refine grX5_54_23 F K Z dX5_comesCurried_1 ?_
  refine lv_iload_n hx hb dX5_comesCurried_4 rfl (lv_at hl 2 rfl) ?_
  obtain ⟨q5, h5, hf⟩ := bind_some hf
  refine krX5_134_X1_firstOf_F0 F K E hA Z h5 ⟨Nat.le_of_ble_eq_true rfl, Nat.le_of_ble_eq_true rfl⟩ hl.1 (Nat.le_of_ble_eq_true rfl) dX5_comesCurried_5 (fun H locs Z => ?_)
  refine lv_istore (lv' := [(5, .int q5.1), (0, .ref (ad 23)), (1, .int x1), (2, .int x2), (3, .int x3), (4, .int x4)]) hx hb dX5_comesCurried_8 hl (by decide) rfl (fun ls hl => ?_)
  refine lv_aload_n hx hb dX5_comesCurried_10 rfl (lv_at hl 1 rfl) ?_
  refine grX5_54_23 F K Z dX5_comesCurried_11 ?_
  refine lv_iload_n hx hb dX5_comesCurried_14 rfl (lv_at hl 3 rfl) ?_
  obtain ⟨q15, h15, hf⟩ := bind_some hf
  refine krX5_150_X1_secondOf_F0 F K E hA Z h15 ⟨Nat.le_of_ble_eq_true rfl, Nat.le_of_ble_eq_true rfl⟩ hl.1 (Nat.le_of_ble_eq_true rfl) dX5_comesCurried_15 (fun H locs Z => ?_)
  refine lv_istore (lv' := [(6, .int q15.1), (5, .int q5.1), (0, .ref (ad 23)), (1, .int x1), (2, .int x2), (3, .int x3), (4, .int x4)]) hx hb dX5_comesCurried_18 hl (by decide) rfl (fun ls hl => ?_)
  refine lv_aload_n hx hb dX5_comesCurried_20 rfl (lv_at hl 2 rfl) ?_
  refine grX5_54_23 F K Z dX5_comesCurried_21 ?_
  refine lv_iconst (v := 5) hx hb dX5_comesCurried_24 (by decide) ?_
  refine lv_iload hx hb dX5_comesCurried_25 (lv_at hl 0 rfl) ?_
  refine lv_iload_n hx hb dX5_comesCurried_27 rfl (lv_at hl 5 rfl) ?_
  obtain ⟨q28, h28, hf⟩ := bind_some hf
  refine krX5_189_X1_joined_F0 F K E hA Z h28 ⟨Nat.le_of_ble_eq_true rfl, Nat.le_of_ble_eq_true rfl⟩ hl.1 (Nat.le_of_ble_eq_true rfl) dX5_comesCurried_28 (fun H locs Z => ?_)
  refine lv_istore (lv' := [(7, .int q28.1), (6, .int q15.1), (5, .int q5.1), (0, .ref (ad 23)), (1, .int x1), (2, .int x2), (3, .int x3), (4, .int x4)]) hx hb dX5_comesCurried_31 hl (by decide) rfl (fun ls hl => ?_)
  refine lv_iload hx hb dX5_comesCurried_33 (lv_at hl 0 rfl) ?_
  refine lv_if_ge (tgt := 42) hx hb dX5_comesCurried_35 (by decide) (fun c35 => ?_) (fun c35 => ?_)
  · have hf := if_t c35 hf
    refine lv_aload_n hx hb dX5_comesCurried_42 rfl (lv_at hl 3 rfl) ?_
    refine grX5_54_23 F K Z dX5_comesCurried_43 ?_
    refine lv_iconst (v := 5) hx hb dX5_comesCurried_46 (by decide) ?_
    refine lv_iload hx hb dX5_comesCurried_47 (lv_at hl 2 rfl) ?_
    refine lv_iload hx hb dX5_comesCurried_49 (lv_at hl 0 rfl) ?_
    obtain ⟨q51, h51, hf⟩ := bind_some hf
    refine krX5_189_X1_joined_F0 F K E hA Z h51 ⟨Nat.le_of_ble_eq_true rfl, Nat.le_of_ble_eq_true rfl⟩ hl.1 (Nat.le_of_ble_eq_true rfl) dX5_comesCurried_51 (fun H locs Z => ?_)
    exact b_X5_comesCurried_54 F hr hk K E hA _ _ _ _ _ _ hf _ _ _ Z (lv_sub hl [3, 4, 7, 2, 1] rfl)
  have hf := if_f c35 hf
  refine lv_iconst (v := -1) hx hb dX5_comesCurried_38 (by decide) ?_
  refine lv_goto (tgt := 54) hx hb dX5_comesCurried_39 (by decide) ?_
  exact b_X5_comesCurried_54 F hr hk K E hA _ _ _ _ _ _ hf _ _ _ Z (lv_sub hl [3, 4, 7, 2, 1] rfl)
def f_X5_comesSide (n : Nat) (st : StT) (x1 : Int32) (x2 : Int32) (x3 : Int32) (x4 : Int32) (x5 : Int32) : Option (Int32 × StT) := (f_X1_joined_F0 n st (5 : Int32) x2 x3).bind fun q7 => (if 0 ≤ q7.1 then ((f_X7_hypothesis_T1 n q7.2 (0 : Int32)).bind fun q24 => ((f_X7_one_T1 n q24.2 x5 q24.1).bind fun q45 => ((f_X7_two_T1 n q45.2 (65 : Int32) x4 q45.1).bind fun q48 => ((f_X7_lambda_T1 n q48.2 x2 q48.1 q24.1).bind fun q69 => ((f_X6_comes n q69.2 x1 q7.1 q69.1).bind fun q72 => (if isZ q72.1 = true then some (q72.1, q72.2) else none)))))) else (some ((0 : Int32), q7.2)))
set_option maxRecDepth 100000 in
set_option maxHeartbeats 4000000 in
theorem c_X5_comesSide {l : Launch} {D : va_G} {ad : Nat → Nat} {cy : Nat → ClassId} {ee : EE} {n : Nat} {st : StT} {x1 : Int32} {x2 : Int32} {x3 : Int32} {x4 : Int32} {x5 : Int32} {res : (Int32 × StT)} (hf : f_X5_comesSide n st x1 x2 x3 x4 x5 = some res) : CT l yX5_comesSide cX5_comesSide 9 (some .boolean) 3 68 D cy ee (wC ad cy st) (wC ad cy res.2) [.ref (ad 23), .int x1, .int x2, .int x3, .int x4, .int x5] (some (.int res.1)) := by
  refine CT.of (by decide +kernel) (Nat.le_of_ble_eq_true rfl) ?_
  intro p e s m args below meth c A F hr hk K E hA Z ls hl
  have hl : lv_has ls 9 [(0, .ref (ad 23)), (1, .int x1), (2, .int x2), (3, .int x3), (4, .int x4), (5, .int x5)] := hl
  have hx := F.1
  have hb := F.2.1
  unfold f_X5_comesSide at hf
  refine lv_aload_n hx hb dX5_comesSide_0 rfl (lv_at hl 0 rfl) ?_
  refine grX5_54_23 F K Z dX5_comesSide_1 ?_
  refine lv_iconst (v := 5) hx hb dX5_comesSide_4 (by decide) ?_
  refine lv_iload_n hx hb dX5_comesSide_5 rfl (lv_at hl 2 rfl) ?_
  refine lv_iload_n hx hb dX5_comesSide_6 rfl (lv_at hl 3 rfl) ?_
  obtain ⟨q7, h7, hf⟩ := bind_some hf
  refine krX5_189_X1_joined_F0 F K E hA Z h7 ⟨Nat.le_of_ble_eq_true rfl, Nat.le_of_ble_eq_true rfl⟩ hl.1 (Nat.le_of_ble_eq_true rfl) dX5_comesSide_7 (fun H locs Z => ?_)
  refine lv_istore (lv' := [(6, .int q7.1), (0, .ref (ad 23)), (1, .int x1), (2, .int x2), (3, .int x3), (4, .int x4), (5, .int x5)]) hx hb dX5_comesSide_10 hl (by decide) rfl (fun ls hl => ?_)
  refine lv_iload hx hb dX5_comesSide_12 (lv_at hl 0 rfl) ?_
  refine lv_if_ge (tgt := 19) hx hb dX5_comesSide_14 (by decide) (fun c14 => ?_) (fun c14 => ?_)
  · have hf := if_t c14 hf
    refine lv_aload_n hx hb dX5_comesSide_19 rfl (lv_at hl 1 rfl) ?_
    refine grX5_16_23 F K Z dX5_comesSide_20 ?_
    refine lv_iconst (v := 0) hx hb dX5_comesSide_23 (by decide) ?_
    obtain ⟨q24, h24, hf⟩ := bind_some hf
    refine krX5_77_X7_hypothesis_T1 F K E hA Z h24 ⟨Nat.le_of_ble_eq_true rfl, Nat.le_of_ble_eq_true rfl⟩ hl.1 (Nat.le_of_ble_eq_true rfl) dX5_comesSide_24 (fun H locs Z => ?_)
    refine lv_istore (lv' := [(7, .int q24.1), (6, .int q7.1), (0, .ref (ad 23)), (1, .int x1), (2, .int x2), (3, .int x3), (4, .int x4), (5, .int x5)]) hx hb dX5_comesSide_27 hl (by decide) rfl (fun ls hl => ?_)
    refine lv_aload_n hx hb dX5_comesSide_29 rfl (lv_at hl 2 rfl) ?_
    refine grX5_16_23 F K Z dX5_comesSide_30 ?_
    refine lv_bipush (v := 65) hx hb dX5_comesSide_33 (by decide) ?_
    refine lv_iload hx hb dX5_comesSide_35 (lv_at hl 6 rfl) ?_
    refine lv_aload_n hx hb dX5_comesSide_37 rfl (lv_at hl 2 rfl) ?_
    refine grX5_16_23 F K Z dX5_comesSide_38 ?_
    refine lv_iload hx hb dX5_comesSide_41 (lv_at hl 7 rfl) ?_
    refine lv_iload hx hb dX5_comesSide_43 (lv_at hl 0 rfl) ?_
    obtain ⟨q45, h45, hf⟩ := bind_some hf
    refine krX5_119_X7_one_T1 F K E hA Z h45 ⟨Nat.le_of_ble_eq_true rfl, Nat.le_of_ble_eq_true rfl⟩ hl.1 (Nat.le_of_ble_eq_true rfl) dX5_comesSide_45 (fun H locs Z => ?_)
    obtain ⟨q48, h48, hf⟩ := bind_some hf
    refine krX5_178_X7_two_T1 F K E hA Z h48 ⟨Nat.le_of_ble_eq_true rfl, Nat.le_of_ble_eq_true rfl⟩ hl.1 (Nat.le_of_ble_eq_true rfl) dX5_comesSide_48 (fun H locs Z => ?_)
    refine lv_istore (lv' := [(8, .int q48.1), (7, .int q24.1), (6, .int q7.1), (0, .ref (ad 23)), (1, .int x1), (2, .int x2), (3, .int x3), (4, .int x4), (5, .int x5)]) hx hb dX5_comesSide_51 hl (by decide) rfl (fun ls hl => ?_)
    refine lv_aload_n hx hb dX5_comesSide_53 rfl (lv_at hl 3 rfl) ?_
    refine grX5_23_23 F K Z dX5_comesSide_54 ?_
    refine lv_iload_n hx hb dX5_comesSide_57 rfl (lv_at hl 4 rfl) ?_
    refine lv_iload hx hb dX5_comesSide_58 (lv_at hl 2 rfl) ?_
    refine lv_aload_n hx hb dX5_comesSide_60 rfl (lv_at hl 3 rfl) ?_
    refine grX5_16_23 F K Z dX5_comesSide_61 ?_
    refine lv_iload_n hx hb dX5_comesSide_64 rfl (lv_at hl 5 rfl) ?_
    refine lv_iload hx hb dX5_comesSide_65 (lv_at hl 0 rfl) ?_
    refine lv_iload hx hb dX5_comesSide_67 (lv_at hl 1 rfl) ?_
    obtain ⟨q69, h69, hf⟩ := bind_some hf
    refine krX5_192_X7_lambda_T1 F K E hA Z h69 ⟨Nat.le_of_ble_eq_true rfl, Nat.le_of_ble_eq_true rfl⟩ hl.1 (Nat.le_of_ble_eq_true rfl) dX5_comesSide_69 (fun H locs Z => ?_)
    obtain ⟨q72, h72, hf⟩ := bind_some hf
    refine krX5_81_X6_comes F K E hA Z h72 ⟨Nat.le_of_ble_eq_true rfl, Nat.le_of_ble_eq_true rfl⟩ hl.1 (Nat.le_of_ble_eq_true rfl) dX5_comesSide_72 (fun H locs Z => ?_)
    obtain ⟨i75, hf⟩ := if_some hf
    have hf := Option.some.inj hf
    subst hf
    exact ret_z F hr hk Z i75 dX5_comesSide_75
  have hf := if_f c14 hf
  refine lv_iconst (v := 0) hx hb dX5_comesSide_17 (by decide) ?_
  have hf := Option.some.inj hf
  subst hf
  exact ret_z F hr hk Z rfl dX5_comesSide_18
def f_X5_reduceImplication (n : Nat) (st : StT) (x1 : Int32) (x2 : Int32) (x3 : Int32) : Option (Int32 × StT) := (f_X1_firstOf_F0 n st x2).bind fun q5 => ((f_X1_secondOf_F0 n q5.2 x2).bind fun q15 => ((f_X1_kindOf_F0 n q15.2 q5.1).bind fun q26 => (if q26.1 = 1 then ((f_X7_unit_T1 n q26.2).bind fun q81 => ((f_X7_two_T1 n q81.2 (65 : Int32) x3 q81.1).bind fun q84 => ((f_X6_comes n q84.2 (x1 + (1 : Int32)) q15.1 q84.1).bind fun q87 => ((f_X5_waitIf n q87.2 q87.1 x1 (0 : Int32)).bind fun q92 => (some (q92.1, q92.2)))))) else (if q26.1 = 2 then ((f_X6_indexOf n q26.2 x1 q5.1).bind fun q108 => ((f_X6_termAt n q108.2 x1 q108.1).bind fun q111 => ((f_X7_two_T1 n q111.2 (65 : Int32) x3 q111.1).bind fun q135 => ((f_X6_comes n q135.2 (x1 + (1 : Int32)) q15.1 q135.1).bind fun q138 => ((f_X5_waitIf n q138.2 q138.1 x1 (0 : Int32)).bind fun q143 => (some (q143.1, q143.2))))))) else (if q26.1 = 3 then ((f_X5_comesCurried n q26.2 (x1 + (1 : Int32)) q5.1 q15.1 x3).bind fun q157 => ((f_X5_waitIf n q157.2 q157.1 x1 (0 : Int32)).bind fun q162 => (some (q162.1, q162.2)))) else (if q26.1 = 4 then ((f_X1_firstOf_F0 n q26.2 q5.1).bind fun q177 => ((f_X5_comesSide n q177.2 (x1 + (1 : Int32)) q177.1 q15.1 x3 (73 : Int32)).bind fun q185 => (if q185.1 = 0 then ((f_X5_waitIf n q185.2 (0 : Int32) x1 (0 : Int32)).bind fun q222 => (some (q222.1, q222.2))) else ((f_X1_secondOf_F0 n q185.2 q5.1).bind fun q201 => ((f_X5_comesSide n q201.2 (x1 + (1 : Int32)) q201.1 q15.1 x3 (74 : Int32)).bind fun q209 => (if q209.1 = 0 then ((f_X5_waitIf n q209.2 (0 : Int32) x1 (0 : Int32)).bind fun q222 => (some (q222.1, q222.2))) else ((f_X5_waitIf n q209.2 (1 : Int32) x1 (0 : Int32)).bind fun q222 => (some (q222.1, q222.2))))))))) else ((f_X5_waitFor n q26.2 x1 (0 : Int32)).bind fun q229 => (some (q229.1, q229.2)))))))))
theorem wd249 : Cond.methodLink RX5 122 yX7_unit ∈ Gw := gT4 (List.mem_of_getElem? (i := 121) rfl) rfl
theorem wd250 : Cond.code yX7_unit prog_9_method_7_code 1 (some .int) ∈ Gw := gT4 (List.mem_of_getElem? (i := 124) rfl) rfl
theorem wd251 : Cond.instanceMethod yX7_unit ∈ Gw := gT4 (List.mem_of_getElem? (i := 122) rfl) rfl
theorem wd252 : Cond.selects RX7 yX7_unit yX7_unit ∈ Gw := gT4 (List.mem_of_getElem? (i := 123) rfl) rfl
theorem wd253 : Cond.methodLink RX5 110 yX6_indexOf ∈ Gw := gT4 (List.mem_of_getElem? (i := 104) rfl) rfl
theorem wd254 : Cond.methodLink RX5 181 yX5_comesCurried ∈ Gw := gT4 (List.mem_of_getElem? (i := 182) rfl) rfl
theorem wd255 : Cond.code yX5_comesCurried prog_7_method_15_code 12 (some .boolean) ∈ Gw := gT4 (List.mem_of_getElem? (i := 185) rfl) rfl
theorem wd256 : Cond.instanceMethod yX5_comesCurried ∈ Gw := gT4 (List.mem_of_getElem? (i := 184) rfl) rfl
theorem wd257 : Cond.selects RX5 yX5_comesCurried yX5_comesCurried ∈ Gw := gP3 (q := (yX5_comesCurried, 14)) (List.mem_of_getElem? (i := 5) rfl)
theorem wd258 : Cond.methodLink RX5 185 yX5_comesSide ∈ Gw := gT4 (List.mem_of_getElem? (i := 191) rfl) rfl
theorem wd259 : Cond.code yX5_comesSide prog_7_method_16_code 9 (some .boolean) ∈ Gw := gT4 (List.mem_of_getElem? (i := 194) rfl) rfl
theorem wd260 : Cond.instanceMethod yX5_comesSide ∈ Gw := gT4 (List.mem_of_getElem? (i := 193) rfl) rfl
theorem wd261 : Cond.selects RX5 yX5_comesSide yX5_comesSide ∈ Gw := gP3 (q := (yX5_comesSide, 14)) (List.mem_of_getElem? (i := 6) rfl)
section
variable {p : Program} {l : Launch} {e : Env} {R : Room} {s : State} {m : MethodId} {args : Array Value} {below : List Frame} {meth : Method} {c : Code} {H : Heap} {locs : List Loc} {Q : State → Prop}
variable {cc : ByteArray} {nL pc : Nat} {ls : Array Slot} {rest : List Value} {D : va_G} {A : Nat → Prop} {cw : Cond} {ad : Nat → Nat} {cy : Nat → ClassId} {ee : EE} {st : StT} {own : String}
theorem krX5_122_X7_unit_T1 {n : Nat}  {q : (Int32 × StT)} (F : CallFix p m c cc nL s args (cw :: Gw) RX5) (K : va_K D vwCl (tyL cy) s) (E : EV ee A s s.heap) (hA : ∀ q, s.heap.size ≤ q → A q) (Z : ZG D (wC ad cy st) A s H locs) (hf : f_X7_unit_T1 n st = some q) (hR : 2 ≤ R.frames ∧ 46 ≤ R.locals) (hl : ls.size = nL) (hst : (rest.map fun v => v.category).sum ≤ 8) (hd : decode cc pc = .ok (.invokevirtual 122, 3)) (kk : ∀ (H1 : Heap) (locs1 : List Loc), ZG D (wC ad cy q.2) A s H1 locs1 → W p l e R s m args below meth c H1 locs1 0 0 Q (F0 m (pc + 3) ls (.int q.1 :: rest))) : W p l e R s m args below meth c H locs 0 0 Q (F0 m pc ls (.ref (ad 24) :: rest)) :=
  call_V (q := (RX7, TX7, 7)) (n := 0) (As := []) (rv := some (.int q.1)) 24 7 F K E hA Z (c_X7_unit_T1 (l := l) (D := D) (ad := ad) (cy := cy) (ee := ee) hf) ⟨wd250, wd249, wd251, wd252, wd60⟩ (by decide +kernel) rfl rfl hR rfl hl hst hd kk
theorem krX5_110_X6_indexOf {n : Nat} {a0 : Int32} {a1 : Int32} {q : (Int32 × StT)} (F : CallFix p m c cc nL s args (cw :: Gw) RX5) (K : va_K D vwCl (tyL cy) s) (E : EV ee A s s.heap) (hA : ∀ q, s.heap.size ≤ q → A q) (Z : ZG D (wC ad cy st) A s H locs) (hf : f_X6_indexOf n st a0 a1 = some q) (hR : 2 ≤ R.frames ∧ 45 ≤ R.locals) (hl : ls.size = nL) (hst : (rest.map fun v => v.category).sum ≤ 8) (hd : decode cc pc = .ok (.invokevirtual 110, 3)) (kk : ∀ (H1 : Heap) (locs1 : List Loc), ZG D (wC ad cy q.2) A s H1 locs1 → W p l e R s m args below meth c H1 locs1 0 0 Q (F0 m (pc + 3) ls (.int q.1 :: rest))) : W p l e R s m args below meth c H locs 0 0 Q (F0 m pc ls (.int a1 :: .int a0 :: .ref (ad 30) :: rest)) :=
  call_V (q := (RX6, TX6, 5)) (n := 2) (As := [.int a0, .int a1]) (rv := some (.int q.1)) 30 6 F K E hA Z (c_X6_indexOf (l := l) (D := D) (ad := ad) (cy := cy) (ee := ee) hf) ⟨wd90, wd253, wd91, wd92, wd78⟩ (by decide +kernel) rfl rfl hR rfl hl hst hd kk
theorem krX5_181_X5_comesCurried {n : Nat} {a0 : Int32} {a1 : Int32} {a2 : Int32} {a3 : Int32} {q : (Int32 × StT)} (F : CallFix p m c cc nL s args (cw :: Gw) RX5) (K : va_K D vwCl (tyL cy) s) (E : EV ee A s s.heap) (hA : ∀ q, s.heap.size ≤ q → A q) (Z : ZG D (wC ad cy st) A s H locs) (hf : f_X5_comesCurried n st a0 a1 a2 a3 = some q) (hR : 4 ≤ R.frames ∧ 99 ≤ R.locals) (hl : ls.size = nL) (hst : (rest.map fun v => v.category).sum ≤ 8) (hd : decode cc pc = .ok (.invokevirtual 181, 3)) (kk : ∀ (H1 : Heap) (locs1 : List Loc), ZG D (wC ad cy q.2) A s H1 locs1 → W p l e R s m args below meth c H1 locs1 0 0 Q (F0 m (pc + 3) ls (.int q.1 :: rest))) : W p l e R s m args below meth c H locs 0 0 Q (F0 m pc ls (.int a3 :: .int a2 :: .int a1 :: .int a0 :: .ref (ad 23) :: rest)) :=
  call_V (q := (RX5, TX5, 14)) (n := 4) (As := [.int a0, .int a1, .int a2, .int a3]) (rv := some (.int q.1)) 23 5 F K E hA Z (c_X5_comesCurried (l := l) (D := D) (ad := ad) (cy := cy) (ee := ee) hf) ⟨wd255, wd254, wd256, wd257, wd141⟩ (by decide +kernel) rfl rfl hR rfl hl hst hd kk
theorem krX5_185_X5_comesSide {n : Nat} {a0 : Int32} {a1 : Int32} {a2 : Int32} {a3 : Int32} {a4 : Int32} {q : (Int32 × StT)} (F : CallFix p m c cc nL s args (cw :: Gw) RX5) (K : va_K D vwCl (tyL cy) s) (E : EV ee A s s.heap) (hA : ∀ q, s.heap.size ≤ q → A q) (Z : ZG D (wC ad cy st) A s H locs) (hf : f_X5_comesSide n st a0 a1 a2 a3 a4 = some q) (hR : 4 ≤ R.frames ∧ 96 ≤ R.locals) (hl : ls.size = nL) (hst : (rest.map fun v => v.category).sum ≤ 8) (hd : decode cc pc = .ok (.invokevirtual 185, 3)) (kk : ∀ (H1 : Heap) (locs1 : List Loc), ZG D (wC ad cy q.2) A s H1 locs1 → W p l e R s m args below meth c H1 locs1 0 0 Q (F0 m (pc + 3) ls (.int q.1 :: rest))) : W p l e R s m args below meth c H locs 0 0 Q (F0 m pc ls (.int a4 :: .int a3 :: .int a2 :: .int a1 :: .int a0 :: .ref (ad 23) :: rest)) :=
  call_V (q := (RX5, TX5, 14)) (n := 5) (As := [.int a0, .int a1, .int a2, .int a3, .int a4]) (rv := some (.int q.1)) 23 5 F K E hA Z (c_X5_comesSide (l := l) (D := D) (ad := ad) (cy := cy) (ee := ee) hf) ⟨wd259, wd258, wd260, wd261, wd141⟩ (by decide +kernel) rfl rfl hR rfl hl hst hd kk
end
set_option maxRecDepth 100000 in
set_option maxHeartbeats 4000000 in
theorem c_X5_reduceImplication {l : Launch} {D : va_G} {ad : Nat → Nat} {cy : Nat → ClassId} {ee : EE} {n : Nat} {st : StT} {x1 : Int32} {x2 : Int32} {x3 : Int32} {res : (Int32 × StT)} (hf : f_X5_reduceImplication n st x1 x2 x3 = some res) : CT l yX5_reduceImplication cX5_reduceImplication 7 (some .int) 4 99 D cy ee (wC ad cy st) (wC ad cy res.2) [.ref (ad 23), .int x1, .int x2, .int x3] (some (.int res.1)) := by
  refine CT.of (by decide +kernel) (Nat.le_of_ble_eq_true rfl) ?_
  intro p e s m args below meth c A F hr hk K E hA Z ls hl
  have hl : lv_has ls 7 [(0, .ref (ad 23)), (1, .int x1), (2, .int x2), (3, .int x3)] := hl
  have hx := F.1
  have hb := F.2.1
  unfold f_X5_reduceImplication at hf
  refine lv_aload_n hx hb dX5_reduceImplication_0 rfl (lv_at hl 0 rfl) ?_
  refine grX5_54_23 F K Z dX5_reduceImplication_1 ?_
  refine lv_iload_n hx hb dX5_reduceImplication_4 rfl (lv_at hl 2 rfl) ?_
  obtain ⟨q5, h5, hf⟩ := bind_some hf
  refine krX5_134_X1_firstOf_F0 F K E hA Z h5 ⟨Nat.le_of_ble_eq_true rfl, Nat.le_of_ble_eq_true rfl⟩ hl.1 (Nat.le_of_ble_eq_true rfl) dX5_reduceImplication_5 (fun H locs Z => ?_)
  refine lv_istore (lv' := [(4, .int q5.1), (0, .ref (ad 23)), (1, .int x1), (2, .int x2), (3, .int x3)]) hx hb dX5_reduceImplication_8 hl (by decide) rfl (fun ls hl => ?_)
  refine lv_aload_n hx hb dX5_reduceImplication_10 rfl (lv_at hl 1 rfl) ?_
  refine grX5_54_23 F K Z dX5_reduceImplication_11 ?_
  refine lv_iload_n hx hb dX5_reduceImplication_14 rfl (lv_at hl 3 rfl) ?_
  obtain ⟨q15, h15, hf⟩ := bind_some hf
  refine krX5_150_X1_secondOf_F0 F K E hA Z h15 ⟨Nat.le_of_ble_eq_true rfl, Nat.le_of_ble_eq_true rfl⟩ hl.1 (Nat.le_of_ble_eq_true rfl) dX5_reduceImplication_15 (fun H locs Z => ?_)
  refine lv_istore (lv' := [(5, .int q15.1), (4, .int q5.1), (0, .ref (ad 23)), (1, .int x1), (2, .int x2), (3, .int x3)]) hx hb dX5_reduceImplication_18 hl (by decide) rfl (fun ls hl => ?_)
  refine lv_aload_n hx hb dX5_reduceImplication_20 rfl (lv_at hl 2 rfl) ?_
  refine grX5_54_23 F K Z dX5_reduceImplication_21 ?_
  refine lv_iload hx hb dX5_reduceImplication_24 (lv_at hl 1 rfl) ?_
  obtain ⟨q26, h26, hf⟩ := bind_some hf
  refine krX5_126_X1_kindOf_F0 F K E hA Z h26 ⟨Nat.le_of_ble_eq_true rfl, Nat.le_of_ble_eq_true rfl⟩ hl.1 (Nat.le_of_ble_eq_true rfl) dX5_reduceImplication_26 (fun H locs Z => ?_)
  by_cases c29_1 : q26.1 = 1
  · have hf := if_t c29_1 hf
    refine lv_tableIn (tgt := 60) hx hb dX5_reduceImplication_29 (by rw [c29_1] <;> decide) (by rw [c29_1] <;> decide) (by rw [c29_1] <;> rfl) (by decide) ?_
    refine lv_aload_n hx hb dX5_reduceImplication_60 rfl (lv_at hl 2 rfl) ?_
    refine lv_aload_n hx hb dX5_reduceImplication_61 rfl (lv_at hl 2 rfl) ?_
    refine grX5_23_23 F K Z dX5_reduceImplication_62 ?_
    refine lv_iload_n hx hb dX5_reduceImplication_65 rfl (lv_at hl 3 rfl) ?_
    refine lv_iconst (v := 1) hx hb dX5_reduceImplication_66 (by decide) ?_
    refine lv_iadd hx hb dX5_reduceImplication_67 ?_
    refine lv_iload hx hb dX5_reduceImplication_68 (lv_at hl 0 rfl) ?_
    refine lv_aload_n hx hb dX5_reduceImplication_70 rfl (lv_at hl 2 rfl) ?_
    refine grX5_16_23 F K Z dX5_reduceImplication_71 ?_
    refine lv_bipush (v := 65) hx hb dX5_reduceImplication_74 (by decide) ?_
    refine lv_iload_n hx hb dX5_reduceImplication_76 rfl (lv_at hl 5 rfl) ?_
    refine lv_aload_n hx hb dX5_reduceImplication_77 rfl (lv_at hl 2 rfl) ?_
    refine grX5_16_23 F K Z dX5_reduceImplication_78 ?_
    obtain ⟨q81, h81, hf⟩ := bind_some hf
    refine krX5_122_X7_unit_T1 F K E hA Z h81 ⟨Nat.le_of_ble_eq_true rfl, Nat.le_of_ble_eq_true rfl⟩ hl.1 (Nat.le_of_ble_eq_true rfl) dX5_reduceImplication_81 (fun H locs Z => ?_)
    obtain ⟨q84, h84, hf⟩ := bind_some hf
    refine krX5_178_X7_two_T1 F K E hA Z h84 ⟨Nat.le_of_ble_eq_true rfl, Nat.le_of_ble_eq_true rfl⟩ hl.1 (Nat.le_of_ble_eq_true rfl) dX5_reduceImplication_84 (fun H locs Z => ?_)
    obtain ⟨q87, h87, hf⟩ := bind_some hf
    refine krX5_81_X6_comes F K E hA Z h87 ⟨Nat.le_of_ble_eq_true rfl, Nat.le_of_ble_eq_true rfl⟩ hl.1 (Nat.le_of_ble_eq_true rfl) dX5_reduceImplication_87 (fun H locs Z => ?_)
    refine lv_iload_n hx hb dX5_reduceImplication_90 rfl (lv_at hl 3 rfl) ?_
    refine lv_iconst (v := 0) hx hb dX5_reduceImplication_91 (by decide) ?_
    obtain ⟨q92, h92, hf⟩ := bind_some hf
    refine krX5_157_X5_waitIf F K E hA Z h92 ⟨Nat.le_of_ble_eq_true rfl, Nat.le_of_ble_eq_true rfl⟩ hl.1 (Nat.le_of_ble_eq_true rfl) dX5_reduceImplication_92 (fun H locs Z => ?_)
    have hf := Option.some.inj hf
    subst hf
    exact ret_i F hr hk Z dX5_reduceImplication_95
  have hf := if_f c29_1 hf
  by_cases c29_2 : q26.1 = 2
  · have hf := if_t c29_2 hf
    refine lv_tableIn (tgt := 96) hx hb dX5_reduceImplication_29 (by rw [c29_2] <;> decide) (by rw [c29_2] <;> decide) (by rw [c29_2] <;> rfl) (by decide) ?_
    refine lv_aload_n hx hb dX5_reduceImplication_96 rfl (lv_at hl 2 rfl) ?_
    refine grX5_23_23 F K Z dX5_reduceImplication_97 ?_
    refine lv_iload_n hx hb dX5_reduceImplication_100 rfl (lv_at hl 3 rfl) ?_
    refine lv_aload_n hx hb dX5_reduceImplication_101 rfl (lv_at hl 2 rfl) ?_
    refine grX5_23_23 F K Z dX5_reduceImplication_102 ?_
    refine lv_iload_n hx hb dX5_reduceImplication_105 rfl (lv_at hl 3 rfl) ?_
    refine lv_iload hx hb dX5_reduceImplication_106 (lv_at hl 1 rfl) ?_
    obtain ⟨q108, h108, hf⟩ := bind_some hf
    refine krX5_110_X6_indexOf F K E hA Z h108 ⟨Nat.le_of_ble_eq_true rfl, Nat.le_of_ble_eq_true rfl⟩ hl.1 (Nat.le_of_ble_eq_true rfl) dX5_reduceImplication_108 (fun H locs Z => ?_)
    obtain ⟨q111, h111, hf⟩ := bind_some hf
    refine krX5_113_X6_termAt F K E hA Z h111 ⟨Nat.le_of_ble_eq_true rfl, Nat.le_of_ble_eq_true rfl⟩ hl.1 (Nat.le_of_ble_eq_true rfl) dX5_reduceImplication_111 (fun H locs Z => ?_)
    refine lv_istore (lv' := [(6, .int q111.1), (5, .int q15.1), (4, .int q5.1), (0, .ref (ad 23)), (1, .int x1), (2, .int x2), (3, .int x3)]) hx hb dX5_reduceImplication_114 hl (by decide) rfl (fun ls hl => ?_)
    refine lv_aload_n hx hb dX5_reduceImplication_116 rfl (lv_at hl 3 rfl) ?_
    refine lv_aload_n hx hb dX5_reduceImplication_117 rfl (lv_at hl 3 rfl) ?_
    refine grX5_23_23 F K Z dX5_reduceImplication_118 ?_
    refine lv_iload_n hx hb dX5_reduceImplication_121 rfl (lv_at hl 4 rfl) ?_
    refine lv_iconst (v := 1) hx hb dX5_reduceImplication_122 (by decide) ?_
    refine lv_iadd hx hb dX5_reduceImplication_123 ?_
    refine lv_iload hx hb dX5_reduceImplication_124 (lv_at hl 1 rfl) ?_
    refine lv_aload_n hx hb dX5_reduceImplication_126 rfl (lv_at hl 3 rfl) ?_
    refine grX5_16_23 F K Z dX5_reduceImplication_127 ?_
    refine lv_bipush (v := 65) hx hb dX5_reduceImplication_130 (by decide) ?_
    refine lv_iload_n hx hb dX5_reduceImplication_132 rfl (lv_at hl 6 rfl) ?_
    refine lv_iload hx hb dX5_reduceImplication_133 (lv_at hl 0 rfl) ?_
    obtain ⟨q135, h135, hf⟩ := bind_some hf
    refine krX5_178_X7_two_T1 F K E hA Z h135 ⟨Nat.le_of_ble_eq_true rfl, Nat.le_of_ble_eq_true rfl⟩ hl.1 (Nat.le_of_ble_eq_true rfl) dX5_reduceImplication_135 (fun H locs Z => ?_)
    obtain ⟨q138, h138, hf⟩ := bind_some hf
    refine krX5_81_X6_comes F K E hA Z h138 ⟨Nat.le_of_ble_eq_true rfl, Nat.le_of_ble_eq_true rfl⟩ hl.1 (Nat.le_of_ble_eq_true rfl) dX5_reduceImplication_138 (fun H locs Z => ?_)
    refine lv_iload_n hx hb dX5_reduceImplication_141 rfl (lv_at hl 4 rfl) ?_
    refine lv_iconst (v := 0) hx hb dX5_reduceImplication_142 (by decide) ?_
    obtain ⟨q143, h143, hf⟩ := bind_some hf
    refine krX5_157_X5_waitIf F K E hA Z h143 ⟨Nat.le_of_ble_eq_true rfl, Nat.le_of_ble_eq_true rfl⟩ hl.1 (Nat.le_of_ble_eq_true rfl) dX5_reduceImplication_143 (fun H locs Z => ?_)
    have hf := Option.some.inj hf
    subst hf
    exact ret_i F hr hk Z dX5_reduceImplication_146
  have hf := if_f c29_2 hf
  by_cases c29_3 : q26.1 = 3
  · have hf := if_t c29_3 hf
    refine lv_tableIn (tgt := 147) hx hb dX5_reduceImplication_29 (by rw [c29_3] <;> decide) (by rw [c29_3] <;> decide) (by rw [c29_3] <;> rfl) (by decide) ?_
    refine lv_aload_n hx hb dX5_reduceImplication_147 rfl (lv_at hl 2 rfl) ?_
    refine lv_aload_n hx hb dX5_reduceImplication_148 rfl (lv_at hl 2 rfl) ?_
    refine lv_iload_n hx hb dX5_reduceImplication_149 rfl (lv_at hl 3 rfl) ?_
    refine lv_iconst (v := 1) hx hb dX5_reduceImplication_150 (by decide) ?_
    refine lv_iadd hx hb dX5_reduceImplication_151 ?_
    refine lv_iload hx hb dX5_reduceImplication_152 (lv_at hl 1 rfl) ?_
    refine lv_iload hx hb dX5_reduceImplication_154 (lv_at hl 0 rfl) ?_
    refine lv_iload_n hx hb dX5_reduceImplication_156 rfl (lv_at hl 5 rfl) ?_
    obtain ⟨q157, h157, hf⟩ := bind_some hf
    refine krX5_181_X5_comesCurried F K E hA Z h157 ⟨Nat.le_of_ble_eq_true rfl, Nat.le_of_ble_eq_true rfl⟩ hl.1 (Nat.le_of_ble_eq_true rfl) dX5_reduceImplication_157 (fun H locs Z => ?_)
    refine lv_iload_n hx hb dX5_reduceImplication_160 rfl (lv_at hl 3 rfl) ?_
    refine lv_iconst (v := 0) hx hb dX5_reduceImplication_161 (by decide) ?_
    obtain ⟨q162, h162, hf⟩ := bind_some hf
    refine krX5_157_X5_waitIf F K E hA Z h162 ⟨Nat.le_of_ble_eq_true rfl, Nat.le_of_ble_eq_true rfl⟩ hl.1 (Nat.le_of_ble_eq_true rfl) dX5_reduceImplication_162 (fun H locs Z => ?_)
    have hf := Option.some.inj hf
    subst hf
    exact ret_i F hr hk Z dX5_reduceImplication_165
  have hf := if_f c29_3 hf
  by_cases c29_4 : q26.1 = 4
  · have hf := if_t c29_4 hf
    refine lv_tableIn (tgt := 166) hx hb dX5_reduceImplication_29 (by rw [c29_4] <;> decide) (by rw [c29_4] <;> decide) (by rw [c29_4] <;> rfl) (by decide) ?_
    refine lv_aload_n hx hb dX5_reduceImplication_166 rfl (lv_at hl 2 rfl) ?_
    refine lv_aload_n hx hb dX5_reduceImplication_167 rfl (lv_at hl 2 rfl) ?_
    refine lv_iload_n hx hb dX5_reduceImplication_168 rfl (lv_at hl 3 rfl) ?_
    refine lv_iconst (v := 1) hx hb dX5_reduceImplication_169 (by decide) ?_
    refine lv_iadd hx hb dX5_reduceImplication_170 ?_
    refine lv_aload_n hx hb dX5_reduceImplication_171 rfl (lv_at hl 2 rfl) ?_
    refine grX5_54_23 F K Z dX5_reduceImplication_172 ?_
    refine lv_iload hx hb dX5_reduceImplication_175 (lv_at hl 1 rfl) ?_
    obtain ⟨q177, h177, hf⟩ := bind_some hf
    refine krX5_134_X1_firstOf_F0 F K E hA Z h177 ⟨Nat.le_of_ble_eq_true rfl, Nat.le_of_ble_eq_true rfl⟩ hl.1 (Nat.le_of_ble_eq_true rfl) dX5_reduceImplication_177 (fun H locs Z => ?_)
    refine lv_iload hx hb dX5_reduceImplication_180 (lv_at hl 0 rfl) ?_
    refine lv_iload_n hx hb dX5_reduceImplication_182 rfl (lv_at hl 5 rfl) ?_
    refine lv_bipush (v := 73) hx hb dX5_reduceImplication_183 (by decide) ?_
    obtain ⟨q185, h185, hf⟩ := bind_some hf
    refine krX5_185_X5_comesSide F K E hA Z h185 ⟨Nat.le_of_ble_eq_true rfl, Nat.le_of_ble_eq_true rfl⟩ hl.1 (Nat.le_of_ble_eq_true rfl) dX5_reduceImplication_185 (fun H locs Z => ?_)
    refine lv_if_eq (tgt := 219) hx hb dX5_reduceImplication_188 (by decide) (fun c188 => ?_) (fun c188 => ?_)
    · have hf := if_t c188 hf
      refine lv_iconst (v := 0) hx hb dX5_reduceImplication_219 (by decide) ?_
      refine lv_iload_n hx hb dX5_reduceImplication_220 rfl (lv_at hl 3 rfl) ?_
      refine lv_iconst (v := 0) hx hb dX5_reduceImplication_221 (by decide) ?_
      obtain ⟨q222, h222, hf⟩ := bind_some hf
      refine krX5_157_X5_waitIf F K E hA Z h222 ⟨Nat.le_of_ble_eq_true rfl, Nat.le_of_ble_eq_true rfl⟩ hl.1 (Nat.le_of_ble_eq_true rfl) dX5_reduceImplication_222 (fun H locs Z => ?_)
      have hf := Option.some.inj hf
      subst hf
      exact ret_i F hr hk Z dX5_reduceImplication_225
    have hf := if_f c188 hf
    refine lv_aload_n hx hb dX5_reduceImplication_191 rfl (lv_at hl 2 rfl) ?_
    refine lv_iload_n hx hb dX5_reduceImplication_192 rfl (lv_at hl 3 rfl) ?_
    refine lv_iconst (v := 1) hx hb dX5_reduceImplication_193 (by decide) ?_
    refine lv_iadd hx hb dX5_reduceImplication_194 ?_
    refine lv_aload_n hx hb dX5_reduceImplication_195 rfl (lv_at hl 2 rfl) ?_
    refine grX5_54_23 F K Z dX5_reduceImplication_196 ?_
    refine lv_iload hx hb dX5_reduceImplication_199 (lv_at hl 1 rfl) ?_
    obtain ⟨q201, h201, hf⟩ := bind_some hf
    refine krX5_150_X1_secondOf_F0 F K E hA Z h201 ⟨Nat.le_of_ble_eq_true rfl, Nat.le_of_ble_eq_true rfl⟩ hl.1 (Nat.le_of_ble_eq_true rfl) dX5_reduceImplication_201 (fun H locs Z => ?_)
    refine lv_iload hx hb dX5_reduceImplication_204 (lv_at hl 0 rfl) ?_
    refine lv_iload_n hx hb dX5_reduceImplication_206 rfl (lv_at hl 5 rfl) ?_
    refine lv_bipush (v := 74) hx hb dX5_reduceImplication_207 (by decide) ?_
    obtain ⟨q209, h209, hf⟩ := bind_some hf
    refine krX5_185_X5_comesSide F K E hA Z h209 ⟨Nat.le_of_ble_eq_true rfl, Nat.le_of_ble_eq_true rfl⟩ hl.1 (Nat.le_of_ble_eq_true rfl) dX5_reduceImplication_209 (fun H locs Z => ?_)
    refine lv_if_eq (tgt := 219) hx hb dX5_reduceImplication_212 (by decide) (fun c212 => ?_) (fun c212 => ?_)
    · have hf := if_t c212 hf
      refine lv_iconst (v := 0) hx hb dX5_reduceImplication_219 (by decide) ?_
      refine lv_iload_n hx hb dX5_reduceImplication_220 rfl (lv_at hl 3 rfl) ?_
      refine lv_iconst (v := 0) hx hb dX5_reduceImplication_221 (by decide) ?_
      obtain ⟨q222, h222, hf⟩ := bind_some hf
      refine krX5_157_X5_waitIf F K E hA Z h222 ⟨Nat.le_of_ble_eq_true rfl, Nat.le_of_ble_eq_true rfl⟩ hl.1 (Nat.le_of_ble_eq_true rfl) dX5_reduceImplication_222 (fun H locs Z => ?_)
      have hf := Option.some.inj hf
      subst hf
      exact ret_i F hr hk Z dX5_reduceImplication_225
    have hf := if_f c212 hf
    refine lv_iconst (v := 1) hx hb dX5_reduceImplication_215 (by decide) ?_
    refine lv_goto (tgt := 220) hx hb dX5_reduceImplication_216 (by decide) ?_
    refine lv_iload_n hx hb dX5_reduceImplication_220 rfl (lv_at hl 3 rfl) ?_
    refine lv_iconst (v := 0) hx hb dX5_reduceImplication_221 (by decide) ?_
    obtain ⟨q222, h222, hf⟩ := bind_some hf
    refine krX5_157_X5_waitIf F K E hA Z h222 ⟨Nat.le_of_ble_eq_true rfl, Nat.le_of_ble_eq_true rfl⟩ hl.1 (Nat.le_of_ble_eq_true rfl) dX5_reduceImplication_222 (fun H locs Z => ?_)
    have hf := Option.some.inj hf
    subst hf
    exact ret_i F hr hk Z dX5_reduceImplication_225
  have hf := if_f c29_4 hf
  refine sw_tab (tgt := 226) hx hb dX5_reduceImplication_29 (sw_any (fun j h1 h2 hj => ?_)) (by decide) ?_
  · rcases (show j = 1 ∨ j = 2 ∨ j = 3 ∨ j = 4 by omega) with rfl | rfl | rfl | rfl
    · exact absurd hj (lv_neT c29_1 (by decide))
    · exact absurd hj (lv_neT c29_2 (by decide))
    · exact absurd hj (lv_neT c29_3 (by decide))
    · exact absurd hj (lv_neT c29_4 (by decide))
  refine lv_aload_n hx hb dX5_reduceImplication_226 rfl (lv_at hl 2 rfl) ?_
  refine lv_iload_n hx hb dX5_reduceImplication_227 rfl (lv_at hl 3 rfl) ?_
  refine lv_iconst (v := 0) hx hb dX5_reduceImplication_228 (by decide) ?_
  obtain ⟨q229, h229, hf⟩ := bind_some hf
  refine krX5_97_X5_waitFor F K E hA Z h229 ⟨Nat.le_of_ble_eq_true rfl, Nat.le_of_ble_eq_true rfl⟩ hl.1 (Nat.le_of_ble_eq_true rfl) dX5_reduceImplication_229 (fun H locs Z => ?_)
  have hf := Option.some.inj hf
  subst hf
  exact ret_i F hr hk Z dX5_reduceImplication_232
def f_X5_reduce (n : Nat) (st : StT) (x1 : Int32) (x2 : Int32) : Option (Int32 × StT) := (f_X6_formulaAt n st x1 x2).bind fun q6 => ((f_X6_termAt n q6.2 x1 x2).bind fun q16 => ((f_X6_goalOf n q16.2 x1).bind fun q37 => ((f_X6_follow n q37.2 x1 x2 q37.1).bind fun q40 => ((f_X1_kindOf_F0 n q40 q6.1).bind fun q48 => (if q48.1 = 3 then ((f_X1_firstOf_F0 n q48.2 q6.1).bind fun q88 => ((f_X7_one_T1 n q88.2 (70 : Int32) q16.1).bind fun q99 => ((f_X6_comes n q99.2 (x1 + (1 : Int32)) q88.1 q99.1).bind fun q102 => (if q102.1 = 0 then ((f_X5_waitIf n q102.2 (0 : Int32) x1 (0 : Int32)).bind fun q146 => (some (q146.1, q146.2))) else ((f_X1_secondOf_F0 n q102.2 q6.1).bind fun q119 => ((f_X7_one_T1 n q119.2 (83 : Int32) q16.1).bind fun q130 => ((f_X6_comes n q130.2 (x1 + (1 : Int32)) q119.1 q130.1).bind fun q133 => (if q133.1 = 0 then ((f_X5_waitIf n q133.2 (0 : Int32) x1 (0 : Int32)).bind fun q146 => (some (q146.1, q146.2))) else ((f_X5_waitIf n q133.2 (1 : Int32) x1 (0 : Int32)).bind fun q146 => (some (q146.1, q146.2))))))))))) else (if q48.1 = 4 then ((f_X5_keep_43 n q48.2 x1 x2).bind fun q156 => ((f_X7_hypothesis_T1 n q156 (0 : Int32)).bind fun q169 => ((f_X5_keep_45 n q169.2 x1 q169.1).bind fun q172 => ((f_X1_firstOf_F0 n q172 q6.1).bind fun q187 => ((f_X5_kept_45 n q187.2 x1).bind fun q195 => ((f_X6_comes n q195.2 (x1 + (1 : Int32)) q187.1 q195.1).bind fun q198 => ((f_X5_waitIf n q198.2 q198.1 x1 (4 : Int32)).bind fun q203 => (some (q203.1, q203.2))))))))) else (if q48.1 = 5 then ((f_X5_reduceImplication n q48.2 x1 q6.1 q16.1).bind fun q212 => (some (q212.1, q212.2))) else ((f_X5_waitFor n q48.2 x1 (0 : Int32)).bind fun q219 => (some (q219.1, q219.2))))))))))
theorem wd262 : Cond.methodLink RX5 174 yX5_reduceImplication ∈ Gw := gT4 (List.mem_of_getElem? (i := 174) rfl) rfl
theorem wd263 : Cond.code yX5_reduceImplication prog_7_method_14_code 7 (some .int) ∈ Gw := gT4 (List.mem_of_getElem? (i := 177) rfl) rfl
theorem wd264 : Cond.instanceMethod yX5_reduceImplication ∈ Gw := gT4 (List.mem_of_getElem? (i := 176) rfl) rfl
theorem wd265 : Cond.selects RX5 yX5_reduceImplication yX5_reduceImplication ∈ Gw := gP3 (q := (yX5_reduceImplication, 14)) (List.mem_of_getElem? (i := 4) rfl)
section
variable {p : Program} {l : Launch} {e : Env} {R : Room} {s : State} {m : MethodId} {args : Array Value} {below : List Frame} {meth : Method} {c : Code} {H : Heap} {locs : List Loc} {Q : State → Prop}
variable {cc : ByteArray} {nL pc : Nat} {ls : Array Slot} {rest : List Value} {D : va_G} {A : Nat → Prop} {cw : Cond} {ad : Nat → Nat} {cy : Nat → ClassId} {ee : EE} {st : StT} {own : String}
theorem krX5_174_X5_reduceImplication {n : Nat} {a0 : Int32} {a1 : Int32} {a2 : Int32} {q : (Int32 × StT)} (F : CallFix p m c cc nL s args (cw :: Gw) RX5) (K : va_K D vwCl (tyL cy) s) (E : EV ee A s s.heap) (hA : ∀ q, s.heap.size ≤ q → A q) (Z : ZG D (wC ad cy st) A s H locs) (hf : f_X5_reduceImplication n st a0 a1 a2 = some q) (hR : 5 ≤ R.frames ∧ 125 ≤ R.locals) (hl : ls.size = nL) (hst : (rest.map fun v => v.category).sum ≤ 8) (hd : decode cc pc = .ok (.invokevirtual 174, 3)) (kk : ∀ (H1 : Heap) (locs1 : List Loc), ZG D (wC ad cy q.2) A s H1 locs1 → W p l e R s m args below meth c H1 locs1 0 0 Q (F0 m (pc + 3) ls (.int q.1 :: rest))) : W p l e R s m args below meth c H locs 0 0 Q (F0 m pc ls (.int a2 :: .int a1 :: .int a0 :: .ref (ad 23) :: rest)) :=
  call_V (q := (RX5, TX5, 14)) (n := 3) (As := [.int a0, .int a1, .int a2]) (rv := some (.int q.1)) 23 5 F K E hA Z (c_X5_reduceImplication (l := l) (D := D) (ad := ad) (cy := cy) (ee := ee) hf) ⟨wd263, wd262, wd264, wd265, wd141⟩ (by decide +kernel) rfl rfl hR rfl hl hst hd kk
end
set_option maxRecDepth 100000 in
set_option maxHeartbeats 4000000 in
theorem c_X5_reduce {l : Launch} {D : va_G} {ad : Nat → Nat} {cy : Nat → ClassId} {ee : EE} {n : Nat} {st : StT} {x1 : Int32} {x2 : Int32} {res : (Int32 × StT)} (hf : f_X5_reduce n st x1 x2 = some res) : CT l yX5_reduce cX5_reduce 6 (some .int) 5 125 D cy ee (wC ad cy st) (wC ad cy res.2) [.ref (ad 23), .int x1, .int x2] (some (.int res.1)) := by
  refine CT.of (by decide +kernel) (Nat.le_of_ble_eq_true rfl) ?_
  intro p e s m args below meth c A F hr hk K E hA Z ls hl
  have hl : lv_has ls 6 [(0, .ref (ad 23)), (1, .int x1), (2, .int x2)] := hl
  have hx := F.1
  have hb := F.2.1
  unfold f_X5_reduce at hf
  refine lv_aload_n hx hb dX5_reduce_0 rfl (lv_at hl 0 rfl) ?_
  refine grX5_23_23 F K Z dX5_reduce_1 ?_
  refine lv_iload_n hx hb dX5_reduce_4 rfl (lv_at hl 1 rfl) ?_
  refine lv_iload_n hx hb dX5_reduce_5 rfl (lv_at hl 2 rfl) ?_
  obtain ⟨q6, h6, hf⟩ := bind_some hf
  refine krX5_164_X6_formulaAt F K E hA Z h6 ⟨Nat.le_of_ble_eq_true rfl, Nat.le_of_ble_eq_true rfl⟩ hl.1 (Nat.le_of_ble_eq_true rfl) dX5_reduce_6 (fun H locs Z => ?_)
  refine lv_istore_n (lv' := [(3, .int q6.1), (0, .ref (ad 23)), (1, .int x1), (2, .int x2)]) hx hb dX5_reduce_9 rfl hl (by decide) rfl (fun ls hl => ?_)
  refine lv_aload_n hx hb dX5_reduce_10 rfl (lv_at hl 1 rfl) ?_
  refine grX5_23_23 F K Z dX5_reduce_11 ?_
  refine lv_iload_n hx hb dX5_reduce_14 rfl (lv_at hl 2 rfl) ?_
  refine lv_iload_n hx hb dX5_reduce_15 rfl (lv_at hl 3 rfl) ?_
  obtain ⟨q16, h16, hf⟩ := bind_some hf
  refine krX5_113_X6_termAt F K E hA Z h16 ⟨Nat.le_of_ble_eq_true rfl, Nat.le_of_ble_eq_true rfl⟩ hl.1 (Nat.le_of_ble_eq_true rfl) dX5_reduce_16 (fun H locs Z => ?_)
  refine lv_istore (lv' := [(4, .int q16.1), (3, .int q6.1), (0, .ref (ad 23)), (1, .int x1), (2, .int x2)]) hx hb dX5_reduce_19 hl (by decide) rfl (fun ls hl => ?_)
  refine lv_iload_n hx hb dX5_reduce_21 rfl (lv_at hl 3 rfl) ?_
  refine lv_iconst (v := 1) hx hb dX5_reduce_22 (by decide) ?_
  refine lv_iadd hx hb dX5_reduce_23 ?_
  refine lv_istore (lv' := [(5, .int (x1 + (1 : Int32))), (4, .int q16.1), (3, .int q6.1), (0, .ref (ad 23)), (1, .int x1), (2, .int x2)]) hx hb dX5_reduce_24 hl (by decide) rfl (fun ls hl => ?_)
  refine lv_aload_n hx hb dX5_reduce_26 rfl (lv_at hl 3 rfl) ?_
  refine grX5_23_23 F K Z dX5_reduce_27 ?_
  refine lv_iload_n hx hb dX5_reduce_30 rfl (lv_at hl 4 rfl) ?_
  refine lv_iload_n hx hb dX5_reduce_31 rfl (lv_at hl 5 rfl) ?_
  refine lv_aload_n hx hb dX5_reduce_32 rfl (lv_at hl 3 rfl) ?_
  refine grX5_23_23 F K Z dX5_reduce_33 ?_
  refine lv_iload_n hx hb dX5_reduce_36 rfl (lv_at hl 4 rfl) ?_
  obtain ⟨q37, h37, hf⟩ := bind_some hf
  refine krX5_107_X6_goalOf F K E hA Z h37 ⟨Nat.le_of_ble_eq_true rfl, Nat.le_of_ble_eq_true rfl⟩ hl.1 (Nat.le_of_ble_eq_true rfl) dX5_reduce_37 (fun H locs Z => ?_)
  obtain ⟨q40, h40, hf⟩ := bind_some hf
  refine krX5_137_X6_follow F K E hA Z h40 ⟨Nat.le_of_ble_eq_true rfl, Nat.le_of_ble_eq_true rfl⟩ hl.1 (Nat.le_of_ble_eq_true rfl) dX5_reduce_40 (fun H locs Z => ?_)
  refine lv_aload_n hx hb dX5_reduce_43 rfl (lv_at hl 3 rfl) ?_
  refine grX5_54_23 F K Z dX5_reduce_44 ?_
  refine lv_iload_n hx hb dX5_reduce_47 rfl (lv_at hl 2 rfl) ?_
  obtain ⟨q48, h48, hf⟩ := bind_some hf
  refine krX5_126_X1_kindOf_F0 F K E hA Z h48 ⟨Nat.le_of_ble_eq_true rfl, Nat.le_of_ble_eq_true rfl⟩ hl.1 (Nat.le_of_ble_eq_true rfl) dX5_reduce_48 (fun H locs Z => ?_)
  by_cases c51_3 : q48.1 = 3
  · have hf := if_t c51_3 hf
    refine lv_tableIn (tgt := 76) hx hb dX5_reduce_51 (by rw [c51_3] <;> decide) (by rw [c51_3] <;> decide) (by rw [c51_3] <;> rfl) (by decide) ?_
    refine lv_aload_n hx hb dX5_reduce_76 rfl (lv_at hl 3 rfl) ?_
    refine lv_aload_n hx hb dX5_reduce_77 rfl (lv_at hl 3 rfl) ?_
    refine grX5_23_23 F K Z dX5_reduce_78 ?_
    refine lv_iload hx hb dX5_reduce_81 (lv_at hl 0 rfl) ?_
    refine lv_aload_n hx hb dX5_reduce_83 rfl (lv_at hl 3 rfl) ?_
    refine grX5_54_23 F K Z dX5_reduce_84 ?_
    refine lv_iload_n hx hb dX5_reduce_87 rfl (lv_at hl 2 rfl) ?_
    obtain ⟨q88, h88, hf⟩ := bind_some hf
    refine krX5_134_X1_firstOf_F0 F K E hA Z h88 ⟨Nat.le_of_ble_eq_true rfl, Nat.le_of_ble_eq_true rfl⟩ hl.1 (Nat.le_of_ble_eq_true rfl) dX5_reduce_88 (fun H locs Z => ?_)
    refine lv_aload_n hx hb dX5_reduce_91 rfl (lv_at hl 3 rfl) ?_
    refine grX5_16_23 F K Z dX5_reduce_92 ?_
    refine lv_bipush (v := 70) hx hb dX5_reduce_95 (by decide) ?_
    refine lv_iload hx hb dX5_reduce_97 (lv_at hl 1 rfl) ?_
    obtain ⟨q99, h99, hf⟩ := bind_some hf
    refine krX5_119_X7_one_T1 F K E hA Z h99 ⟨Nat.le_of_ble_eq_true rfl, Nat.le_of_ble_eq_true rfl⟩ hl.1 (Nat.le_of_ble_eq_true rfl) dX5_reduce_99 (fun H locs Z => ?_)
    obtain ⟨q102, h102, hf⟩ := bind_some hf
    refine krX5_81_X6_comes F K E hA Z h102 ⟨Nat.le_of_ble_eq_true rfl, Nat.le_of_ble_eq_true rfl⟩ hl.1 (Nat.le_of_ble_eq_true rfl) dX5_reduce_102 (fun H locs Z => ?_)
    refine lv_if_eq (tgt := 143) hx hb dX5_reduce_105 (by decide) (fun c105 => ?_) (fun c105 => ?_)
    · have hf := if_t c105 hf
      refine lv_iconst (v := 0) hx hb dX5_reduce_143 (by decide) ?_
      refine lv_iload_n hx hb dX5_reduce_144 rfl (lv_at hl 4 rfl) ?_
      refine lv_iconst (v := 0) hx hb dX5_reduce_145 (by decide) ?_
      obtain ⟨q146, h146, hf⟩ := bind_some hf
      refine krX5_157_X5_waitIf F K E hA Z h146 ⟨Nat.le_of_ble_eq_true rfl, Nat.le_of_ble_eq_true rfl⟩ hl.1 (Nat.le_of_ble_eq_true rfl) dX5_reduce_146 (fun H locs Z => ?_)
      have hf := Option.some.inj hf
      subst hf
      exact ret_i F hr hk Z dX5_reduce_149
    have hf := if_f c105 hf
    refine lv_aload_n hx hb dX5_reduce_108 rfl (lv_at hl 3 rfl) ?_
    refine grX5_23_23 F K Z dX5_reduce_109 ?_
    refine lv_iload hx hb dX5_reduce_112 (lv_at hl 0 rfl) ?_
    refine lv_aload_n hx hb dX5_reduce_114 rfl (lv_at hl 3 rfl) ?_
    refine grX5_54_23 F K Z dX5_reduce_115 ?_
    refine lv_iload_n hx hb dX5_reduce_118 rfl (lv_at hl 2 rfl) ?_
    obtain ⟨q119, h119, hf⟩ := bind_some hf
    refine krX5_150_X1_secondOf_F0 F K E hA Z h119 ⟨Nat.le_of_ble_eq_true rfl, Nat.le_of_ble_eq_true rfl⟩ hl.1 (Nat.le_of_ble_eq_true rfl) dX5_reduce_119 (fun H locs Z => ?_)
    refine lv_aload_n hx hb dX5_reduce_122 rfl (lv_at hl 3 rfl) ?_
    refine grX5_16_23 F K Z dX5_reduce_123 ?_
    refine lv_bipush (v := 83) hx hb dX5_reduce_126 (by decide) ?_
    refine lv_iload hx hb dX5_reduce_128 (lv_at hl 1 rfl) ?_
    obtain ⟨q130, h130, hf⟩ := bind_some hf
    refine krX5_119_X7_one_T1 F K E hA Z h130 ⟨Nat.le_of_ble_eq_true rfl, Nat.le_of_ble_eq_true rfl⟩ hl.1 (Nat.le_of_ble_eq_true rfl) dX5_reduce_130 (fun H locs Z => ?_)
    obtain ⟨q133, h133, hf⟩ := bind_some hf
    refine krX5_81_X6_comes F K E hA Z h133 ⟨Nat.le_of_ble_eq_true rfl, Nat.le_of_ble_eq_true rfl⟩ hl.1 (Nat.le_of_ble_eq_true rfl) dX5_reduce_133 (fun H locs Z => ?_)
    refine lv_if_eq (tgt := 143) hx hb dX5_reduce_136 (by decide) (fun c136 => ?_) (fun c136 => ?_)
    · have hf := if_t c136 hf
      refine lv_iconst (v := 0) hx hb dX5_reduce_143 (by decide) ?_
      refine lv_iload_n hx hb dX5_reduce_144 rfl (lv_at hl 4 rfl) ?_
      refine lv_iconst (v := 0) hx hb dX5_reduce_145 (by decide) ?_
      obtain ⟨q146, h146, hf⟩ := bind_some hf
      refine krX5_157_X5_waitIf F K E hA Z h146 ⟨Nat.le_of_ble_eq_true rfl, Nat.le_of_ble_eq_true rfl⟩ hl.1 (Nat.le_of_ble_eq_true rfl) dX5_reduce_146 (fun H locs Z => ?_)
      have hf := Option.some.inj hf
      subst hf
      exact ret_i F hr hk Z dX5_reduce_149
    have hf := if_f c136 hf
    refine lv_iconst (v := 1) hx hb dX5_reduce_139 (by decide) ?_
    refine lv_goto (tgt := 144) hx hb dX5_reduce_140 (by decide) ?_
    refine lv_iload_n hx hb dX5_reduce_144 rfl (lv_at hl 4 rfl) ?_
    refine lv_iconst (v := 0) hx hb dX5_reduce_145 (by decide) ?_
    obtain ⟨q146, h146, hf⟩ := bind_some hf
    refine krX5_157_X5_waitIf F K E hA Z h146 ⟨Nat.le_of_ble_eq_true rfl, Nat.le_of_ble_eq_true rfl⟩ hl.1 (Nat.le_of_ble_eq_true rfl) dX5_reduce_146 (fun H locs Z => ?_)
    have hf := Option.some.inj hf
    subst hf
    exact ret_i F hr hk Z dX5_reduce_149
  have hf := if_f c51_3 hf
  by_cases c51_4 : q48.1 = 4
  · have hf := if_t c51_4 hf
    refine lv_tableIn (tgt := 150) hx hb dX5_reduce_51 (by rw [c51_4] <;> decide) (by rw [c51_4] <;> decide) (by rw [c51_4] <;> rfl) (by decide) ?_
    refine lv_aload_n hx hb dX5_reduce_150 rfl (lv_at hl 3 rfl) ?_
    refine grX5_38_23 F K Z dX5_reduce_151 ?_
    refine lv_iload_n hx hb dX5_reduce_154 rfl (lv_at hl 4 rfl) ?_
    refine lv_iload_n hx hb dX5_reduce_155 rfl (lv_at hl 5 rfl) ?_
    obtain ⟨q156, h156, hf⟩ := bind_some hf
    refine krX5_93_X5_keep_43 F K E hA Z h156 ⟨Nat.le_of_ble_eq_true rfl, Nat.le_of_ble_eq_true rfl⟩ hl.1 (Nat.le_of_ble_eq_true rfl) dX5_reduce_156 (fun H locs Z => ?_)
    refine lv_aload_n hx hb dX5_reduce_159 rfl (lv_at hl 3 rfl) ?_
    refine grX5_44_23 F K Z dX5_reduce_160 ?_
    refine lv_iload_n hx hb dX5_reduce_163 rfl (lv_at hl 4 rfl) ?_
    refine lv_aload_n hx hb dX5_reduce_164 rfl (lv_at hl 3 rfl) ?_
    refine grX5_16_23 F K Z dX5_reduce_165 ?_
    refine lv_iconst (v := 0) hx hb dX5_reduce_168 (by decide) ?_
    obtain ⟨q169, h169, hf⟩ := bind_some hf
    refine krX5_77_X7_hypothesis_T1 F K E hA Z h169 ⟨Nat.le_of_ble_eq_true rfl, Nat.le_of_ble_eq_true rfl⟩ hl.1 (Nat.le_of_ble_eq_true rfl) dX5_reduce_169 (fun H locs Z => ?_)
    obtain ⟨q172, h172, hf⟩ := bind_some hf
    refine krX5_93_X5_keep_45 F K E hA Z h172 ⟨Nat.le_of_ble_eq_true rfl, Nat.le_of_ble_eq_true rfl⟩ hl.1 (Nat.le_of_ble_eq_true rfl) dX5_reduce_172 (fun H locs Z => ?_)
    refine lv_aload_n hx hb dX5_reduce_175 rfl (lv_at hl 3 rfl) ?_
    refine lv_aload_n hx hb dX5_reduce_176 rfl (lv_at hl 3 rfl) ?_
    refine grX5_23_23 F K Z dX5_reduce_177 ?_
    refine lv_iload hx hb dX5_reduce_180 (lv_at hl 0 rfl) ?_
    refine lv_aload_n hx hb dX5_reduce_182 rfl (lv_at hl 3 rfl) ?_
    refine grX5_54_23 F K Z dX5_reduce_183 ?_
    refine lv_iload_n hx hb dX5_reduce_186 rfl (lv_at hl 2 rfl) ?_
    obtain ⟨q187, h187, hf⟩ := bind_some hf
    refine krX5_134_X1_firstOf_F0 F K E hA Z h187 ⟨Nat.le_of_ble_eq_true rfl, Nat.le_of_ble_eq_true rfl⟩ hl.1 (Nat.le_of_ble_eq_true rfl) dX5_reduce_187 (fun H locs Z => ?_)
    refine lv_aload_n hx hb dX5_reduce_190 rfl (lv_at hl 3 rfl) ?_
    refine grX5_44_23 F K Z dX5_reduce_191 ?_
    refine lv_iload_n hx hb dX5_reduce_194 rfl (lv_at hl 4 rfl) ?_
    obtain ⟨q195, h195, hf⟩ := bind_some hf
    refine krX5_153_X5_kept_45 F K E hA Z h195 ⟨Nat.le_of_ble_eq_true rfl, Nat.le_of_ble_eq_true rfl⟩ hl.1 (Nat.le_of_ble_eq_true rfl) dX5_reduce_195 (fun H locs Z => ?_)
    obtain ⟨q198, h198, hf⟩ := bind_some hf
    refine krX5_81_X6_comes F K E hA Z h198 ⟨Nat.le_of_ble_eq_true rfl, Nat.le_of_ble_eq_true rfl⟩ hl.1 (Nat.le_of_ble_eq_true rfl) dX5_reduce_198 (fun H locs Z => ?_)
    refine lv_iload_n hx hb dX5_reduce_201 rfl (lv_at hl 4 rfl) ?_
    refine lv_iconst (v := 4) hx hb dX5_reduce_202 (by decide) ?_
    obtain ⟨q203, h203, hf⟩ := bind_some hf
    refine krX5_157_X5_waitIf F K E hA Z h203 ⟨Nat.le_of_ble_eq_true rfl, Nat.le_of_ble_eq_true rfl⟩ hl.1 (Nat.le_of_ble_eq_true rfl) dX5_reduce_203 (fun H locs Z => ?_)
    have hf := Option.some.inj hf
    subst hf
    exact ret_i F hr hk Z dX5_reduce_206
  have hf := if_f c51_4 hf
  by_cases c51_5 : q48.1 = 5
  · have hf := if_t c51_5 hf
    refine lv_tableIn (tgt := 207) hx hb dX5_reduce_51 (by rw [c51_5] <;> decide) (by rw [c51_5] <;> decide) (by rw [c51_5] <;> rfl) (by decide) ?_
    refine lv_aload_n hx hb dX5_reduce_207 rfl (lv_at hl 3 rfl) ?_
    refine lv_iload_n hx hb dX5_reduce_208 rfl (lv_at hl 4 rfl) ?_
    refine lv_iload_n hx hb dX5_reduce_209 rfl (lv_at hl 2 rfl) ?_
    refine lv_iload hx hb dX5_reduce_210 (lv_at hl 1 rfl) ?_
    obtain ⟨q212, h212, hf⟩ := bind_some hf
    refine krX5_174_X5_reduceImplication F K E hA Z h212 ⟨Nat.le_of_ble_eq_true rfl, Nat.le_of_ble_eq_true rfl⟩ hl.1 (Nat.le_of_ble_eq_true rfl) dX5_reduce_212 (fun H locs Z => ?_)
    have hf := Option.some.inj hf
    subst hf
    exact ret_i F hr hk Z dX5_reduce_215
  have hf := if_f c51_5 hf
  refine sw_tab (tgt := 216) hx hb dX5_reduce_51 (sw_any (fun j h1 h2 hj => ?_)) (by decide) ?_
  · rcases (show j = 3 ∨ j = 4 ∨ j = 5 by omega) with rfl | rfl | rfl
    · exact absurd hj (lv_neT c51_3 (by decide))
    · exact absurd hj (lv_neT c51_4 (by decide))
    · exact absurd hj (lv_neT c51_5 (by decide))
  refine lv_aload_n hx hb dX5_reduce_216 rfl (lv_at hl 3 rfl) ?_
  refine lv_iload_n hx hb dX5_reduce_217 rfl (lv_at hl 4 rfl) ?_
  refine lv_iconst (v := 0) hx hb dX5_reduce_218 (by decide) ?_
  obtain ⟨q219, h219, hf⟩ := bind_some hf
  refine krX5_97_X5_waitFor F K E hA Z h219 ⟨Nat.le_of_ble_eq_true rfl, Nat.le_of_ble_eq_true rfl⟩ hl.1 (Nat.le_of_ble_eq_true rfl) dX5_reduce_219 (fun H locs Z => ?_)
  have hf := Option.some.inj hf
  subst hf
  exact ret_i F hr hk Z dX5_reduce_222
def f_X5_beginBody (n : Nat) (st : StT) (x1 : Int32) (x2 : Int32) : Option (Int32 × StT) := (f_X7_hypothesis_T1 n st (0 : Int32)).bind fun q10 => ((f_X5_keep_45 n q10.2 x1 q10.1).bind fun q13 => ((f_X1_secondOf_F0 n q13 x2).bind fun q27 => ((f_X6_follow n q27.2 x1 (-1 : Int32) q27.1).bind fun q30 => ((f_X1_firstOf_F0 n q30 x2).bind fun q46 => ((f_X5_kept_45 n q46.2 x1).bind fun q54 => ((f_X6_comes n q54.2 (x1 + (1 : Int32)) q46.1 q54.1).bind fun q57 => ((f_X5_waitIf n q57.2 q57.1 x1 (1 : Int32)).bind fun q62 => (some (q62.1, q62.2)))))))))
set_option maxRecDepth 100000 in
set_option maxHeartbeats 4000000 in
theorem c_X5_beginBody {l : Launch} {D : va_G} {ad : Nat → Nat} {cy : Nat → ClassId} {ee : EE} {n : Nat} {st : StT} {x1 : Int32} {x2 : Int32} {res : (Int32 × StT)} (hf : f_X5_beginBody n st x1 x2 = some res) : CT l yX5_beginBody cX5_beginBody 3 (some .int) 3 68 D cy ee (wC ad cy st) (wC ad cy res.2) [.ref (ad 23), .int x1, .int x2] (some (.int res.1)) := by
  refine CT.of (by decide +kernel) (Nat.le_of_ble_eq_true rfl) ?_
  intro p e s m args below meth c A F hr hk K E hA Z ls hl
  have hl : lv_has ls 3 [(0, .ref (ad 23)), (1, .int x1), (2, .int x2)] := hl
  have hx := F.1
  have hb := F.2.1
  unfold f_X5_beginBody at hf
  refine lv_aload_n hx hb dX5_beginBody_0 rfl (lv_at hl 0 rfl) ?_
  refine grX5_44_23 F K Z dX5_beginBody_1 ?_
  refine lv_iload_n hx hb dX5_beginBody_4 rfl (lv_at hl 1 rfl) ?_
  refine lv_aload_n hx hb dX5_beginBody_5 rfl (lv_at hl 0 rfl) ?_
  refine grX5_16_23 F K Z dX5_beginBody_6 ?_
  refine lv_iconst (v := 0) hx hb dX5_beginBody_9 (by decide) ?_
  obtain ⟨q10, h10, hf⟩ := bind_some hf
  refine krX5_77_X7_hypothesis_T1 F K E hA Z h10 ⟨Nat.le_of_ble_eq_true rfl, Nat.le_of_ble_eq_true rfl⟩ hl.1 (Nat.le_of_ble_eq_true rfl) dX5_beginBody_10 (fun H locs Z => ?_)
  obtain ⟨q13, h13, hf⟩ := bind_some hf
  refine krX5_93_X5_keep_45 F K E hA Z h13 ⟨Nat.le_of_ble_eq_true rfl, Nat.le_of_ble_eq_true rfl⟩ hl.1 (Nat.le_of_ble_eq_true rfl) dX5_beginBody_13 (fun H locs Z => ?_)
  refine lv_aload_n hx hb dX5_beginBody_16 rfl (lv_at hl 0 rfl) ?_
  refine grX5_23_23 F K Z dX5_beginBody_17 ?_
  refine lv_iload_n hx hb dX5_beginBody_20 rfl (lv_at hl 1 rfl) ?_
  refine lv_iconst (v := -1) hx hb dX5_beginBody_21 (by decide) ?_
  refine lv_aload_n hx hb dX5_beginBody_22 rfl (lv_at hl 0 rfl) ?_
  refine grX5_54_23 F K Z dX5_beginBody_23 ?_
  refine lv_iload_n hx hb dX5_beginBody_26 rfl (lv_at hl 2 rfl) ?_
  obtain ⟨q27, h27, hf⟩ := bind_some hf
  refine krX5_150_X1_secondOf_F0 F K E hA Z h27 ⟨Nat.le_of_ble_eq_true rfl, Nat.le_of_ble_eq_true rfl⟩ hl.1 (Nat.le_of_ble_eq_true rfl) dX5_beginBody_27 (fun H locs Z => ?_)
  obtain ⟨q30, h30, hf⟩ := bind_some hf
  refine krX5_137_X6_follow F K E hA Z h30 ⟨Nat.le_of_ble_eq_true rfl, Nat.le_of_ble_eq_true rfl⟩ hl.1 (Nat.le_of_ble_eq_true rfl) dX5_beginBody_30 (fun H locs Z => ?_)
  refine lv_aload_n hx hb dX5_beginBody_33 rfl (lv_at hl 0 rfl) ?_
  refine lv_aload_n hx hb dX5_beginBody_34 rfl (lv_at hl 0 rfl) ?_
  refine grX5_23_23 F K Z dX5_beginBody_35 ?_
  refine lv_iload_n hx hb dX5_beginBody_38 rfl (lv_at hl 1 rfl) ?_
  refine lv_iconst (v := 1) hx hb dX5_beginBody_39 (by decide) ?_
  refine lv_iadd hx hb dX5_beginBody_40 ?_
  refine lv_aload_n hx hb dX5_beginBody_41 rfl (lv_at hl 0 rfl) ?_
  refine grX5_54_23 F K Z dX5_beginBody_42 ?_
  refine lv_iload_n hx hb dX5_beginBody_45 rfl (lv_at hl 2 rfl) ?_
  obtain ⟨q46, h46, hf⟩ := bind_some hf
  refine krX5_134_X1_firstOf_F0 F K E hA Z h46 ⟨Nat.le_of_ble_eq_true rfl, Nat.le_of_ble_eq_true rfl⟩ hl.1 (Nat.le_of_ble_eq_true rfl) dX5_beginBody_46 (fun H locs Z => ?_)
  refine lv_aload_n hx hb dX5_beginBody_49 rfl (lv_at hl 0 rfl) ?_
  refine grX5_44_23 F K Z dX5_beginBody_50 ?_
  refine lv_iload_n hx hb dX5_beginBody_53 rfl (lv_at hl 1 rfl) ?_
  obtain ⟨q54, h54, hf⟩ := bind_some hf
  refine krX5_153_X5_kept_45 F K E hA Z h54 ⟨Nat.le_of_ble_eq_true rfl, Nat.le_of_ble_eq_true rfl⟩ hl.1 (Nat.le_of_ble_eq_true rfl) dX5_beginBody_54 (fun H locs Z => ?_)
  obtain ⟨q57, h57, hf⟩ := bind_some hf
  refine krX5_81_X6_comes F K E hA Z h57 ⟨Nat.le_of_ble_eq_true rfl, Nat.le_of_ble_eq_true rfl⟩ hl.1 (Nat.le_of_ble_eq_true rfl) dX5_beginBody_57 (fun H locs Z => ?_)
  refine lv_iload_n hx hb dX5_beginBody_60 rfl (lv_at hl 1 rfl) ?_
  refine lv_iconst (v := 1) hx hb dX5_beginBody_61 (by decide) ?_
  obtain ⟨q62, h62, hf⟩ := bind_some hf
  refine krX5_157_X5_waitIf F K E hA Z h62 ⟨Nat.le_of_ble_eq_true rfl, Nat.le_of_ble_eq_true rfl⟩ hl.1 (Nat.le_of_ble_eq_true rfl) dX5_beginBody_62 (fun H locs Z => ?_)
  have hf := Option.some.inj hf
  subst hf
  exact ret_i F hr hk Z dX5_beginBody_65
def f_X5_begin (n : Nat) (st : StT) (x1 : Int32) : Option (Int32 × StT) := if x1 < 0 then (some ((-7 : Int32), st)) else (if x1 < (200 : Int32) then (if (st.1 20) < (st.1 19) then ((f_X4_begin n (uF (uF st 20 ((st.1 20) + (1 : Int32))) 21 (if ((uF st 20 ((st.1 20) + (1 : Int32))).1 21) < (x1 + (1 : Int32)) then (x1 + (1 : Int32)) else ((uF st 20 ((st.1 20) + (1 : Int32))).1 21))) x1).bind fun q57 => ((f_X6_goalOf n q57 x1).bind fun q65 => ((f_X6_indexOf n q65.2 x1 q65.1).bind fun q75 => (if q75.1 < 0 then ((f_X6_indexOf n q75.2 x1 (0 : Int32)).bind fun q103 => (if q103.1 < 0 then (if q65.1 = (1 : Int32) then ((f_X7_unit_T1 n q103.2).bind fun q144 => ((f_X5_provedBy n q144.2 q144.1).bind fun q147 => (some (q147.1, q147.2)))) else ((f_X1_kindOf_F0 n q103.2 q65.1).bind fun q156 => (if q156.1 = (5 : Int32) then ((f_X5_beginBody n q156.2 x1 q65.1).bind fun q170 => (some (q170.1, q170.2))) else (if q156.1 = (3 : Int32) then ((f_X1_firstOf_F0 n q156.2 q65.1).bind fun q191 => ((f_X6_follow n q191.2 x1 (-1 : Int32) q191.1).bind fun q194 => ((f_X5_waitFor n q194 x1 (2 : Int32)).bind fun q200 => (some (q200.1, q200.2))))) else ((f_X5_firstReducible n q156.2 x1).bind fun q206 => (if q206.1 < 0 then (if q156.1 = (4 : Int32) then ((f_X1_firstOf_F0 n q206.2 q65.1).bind fun q238 => ((f_X6_follow n q238.2 x1 (-1 : Int32) q238.1).bind fun q241 => ((f_X5_waitFor n q241 x1 (6 : Int32)).bind fun q248 => (some (q248.1, q248.2))))) else ((f_X5_tryNested n q206.2 x1 (0 : Int32)).bind fun q255 => (some (q255.1, q255.2)))) else ((f_X5_reduce n q206.2 x1 q206.1).bind fun q217 => (some (q217.1, q217.2))))))))) else ((f_X6_termAt n q103.2 x1 q103.1).bind fun q124 => ((f_X7_one_T1 n q124.2 (88 : Int32) q124.1).bind fun q127 => ((f_X5_provedBy n q127.2 q127.1).bind fun q130 => (some (q130.1, q130.2))))))) else ((f_X6_termAt n q75.2 x1 q75.1).bind fun q90 => ((f_X5_provedBy n q90.2 q90.1).bind fun q93 => (some (q93.1, q93.2)))))))) else (some ((-6 : Int32), st))) else (some ((-7 : Int32), st)))
theorem wd266 : Cond.methodLink RX5 144 yX5_reduce ∈ Gw := gT4 (List.mem_of_getElem? (i := 170) rfl) rfl
theorem wd267 : Cond.code yX5_reduce prog_7_method_13_code 6 (some .int) ∈ Gw := gT4 (List.mem_of_getElem? (i := 173) rfl) rfl
theorem wd268 : Cond.instanceMethod yX5_reduce ∈ Gw := gT4 (List.mem_of_getElem? (i := 172) rfl) rfl
theorem wd269 : Cond.selects RX5 yX5_reduce yX5_reduce ∈ Gw := gP3 (q := (yX5_reduce, 14)) (List.mem_of_getElem? (i := 3) rfl)
theorem wd270 : Cond.methodLink RX5 141 yX5_firstReducible ∈ Gw := gT4 (List.mem_of_getElem? (i := 150) rfl) rfl
theorem wd271 : Cond.code yX5_firstReducible prog_7_method_11_code 4 (some .int) ∈ Gw := gT4 (List.mem_of_getElem? (i := 153) rfl) rfl
theorem wd272 : Cond.instanceMethod yX5_firstReducible ∈ Gw := gT4 (List.mem_of_getElem? (i := 152) rfl) rfl
theorem wd273 : Cond.selects RX5 yX5_firstReducible yX5_firstReducible ∈ Gw := gP3 (q := (yX5_firstReducible, 14)) (List.mem_of_getElem? (i := 0) rfl)
theorem wd274 : Cond.methodLink RX5 131 yX5_beginBody ∈ Gw := gT4 (List.mem_of_getElem? (i := 126) rfl) rfl
theorem wd275 : Cond.code yX5_beginBody prog_7_method_9_code 3 (some .int) ∈ Gw := gT4 (List.mem_of_getElem? (i := 129) rfl) rfl
theorem wd276 : Cond.instanceMethod yX5_beginBody ∈ Gw := gT4 (List.mem_of_getElem? (i := 128) rfl) rfl
theorem wd277 : Cond.selects RX5 yX5_beginBody yX5_beginBody ∈ Gw := gP2 (q := (yX5_beginBody, 14)) (List.mem_of_getElem? (i := 13) rfl)
theorem wd278 : Cond.methodLink RX5 106 yX4_begin ∈ Gw := gT4 (List.mem_of_getElem? (i := 96) rfl) rfl
theorem wd279 : Cond.code yX4_begin prog_6_method_4_code 2 none ∈ Gw := gT4 (List.mem_of_getElem? (i := 99) rfl) rfl
theorem wd280 : Cond.instanceMethod yX4_begin ∈ Gw := gT4 (List.mem_of_getElem? (i := 97) rfl) rfl
theorem wd281 : Cond.selects RX4 yX4_begin yX4_begin ∈ Gw := gT4 (List.mem_of_getElem? (i := 98) rfl) rfl
section
variable {p : Program} {l : Launch} {e : Env} {R : Room} {s : State} {m : MethodId} {args : Array Value} {below : List Frame} {meth : Method} {c : Code} {H : Heap} {locs : List Loc} {Q : State → Prop}
variable {cc : ByteArray} {nL pc : Nat} {ls : Array Slot} {rest : List Value} {D : va_G} {A : Nat → Prop} {cw : Cond} {ad : Nat → Nat} {cy : Nat → ClassId} {ee : EE} {st : StT} {own : String}
theorem krX5_144_X5_reduce {n : Nat} {a0 : Int32} {a1 : Int32} {q : (Int32 × StT)} (F : CallFix p m c cc nL s args (cw :: Gw) RX5) (K : va_K D vwCl (tyL cy) s) (E : EV ee A s s.heap) (hA : ∀ q, s.heap.size ≤ q → A q) (Z : ZG D (wC ad cy st) A s H locs) (hf : f_X5_reduce n st a0 a1 = some q) (hR : 6 ≤ R.frames ∧ 150 ≤ R.locals) (hl : ls.size = nL) (hst : (rest.map fun v => v.category).sum ≤ 8) (hd : decode cc pc = .ok (.invokevirtual 144, 3)) (kk : ∀ (H1 : Heap) (locs1 : List Loc), ZG D (wC ad cy q.2) A s H1 locs1 → W p l e R s m args below meth c H1 locs1 0 0 Q (F0 m (pc + 3) ls (.int q.1 :: rest))) : W p l e R s m args below meth c H locs 0 0 Q (F0 m pc ls (.int a1 :: .int a0 :: .ref (ad 23) :: rest)) :=
  call_V (q := (RX5, TX5, 14)) (n := 2) (As := [.int a0, .int a1]) (rv := some (.int q.1)) 23 5 F K E hA Z (c_X5_reduce (l := l) (D := D) (ad := ad) (cy := cy) (ee := ee) hf) ⟨wd267, wd266, wd268, wd269, wd141⟩ (by decide +kernel) rfl rfl hR rfl hl hst hd kk
theorem krX5_141_X5_firstReducible {n : Nat} {a0 : Int32} {q : (Int32 × StT)} (F : CallFix p m c cc nL s args (cw :: Gw) RX5) (K : va_K D vwCl (tyL cy) s) (E : EV ee A s s.heap) (hA : ∀ q, s.heap.size ≤ q → A q) (Z : ZG D (wC ad cy st) A s H locs) (hf : f_X5_firstReducible n st a0 = some q) (hR : 4 ≤ R.frames ∧ 91 ≤ R.locals) (hl : ls.size = nL) (hst : (rest.map fun v => v.category).sum ≤ 8) (hd : decode cc pc = .ok (.invokevirtual 141, 3)) (kk : ∀ (H1 : Heap) (locs1 : List Loc), ZG D (wC ad cy q.2) A s H1 locs1 → W p l e R s m args below meth c H1 locs1 0 0 Q (F0 m (pc + 3) ls (.int q.1 :: rest))) : W p l e R s m args below meth c H locs 0 0 Q (F0 m pc ls (.int a0 :: .ref (ad 23) :: rest)) :=
  call_V (q := (RX5, TX5, 14)) (n := 1) (As := [.int a0]) (rv := some (.int q.1)) 23 5 F K E hA Z (c_X5_firstReducible (l := l) (D := D) (ad := ad) (cy := cy) (ee := ee) hf) ⟨wd271, wd270, wd272, wd273, wd141⟩ (by decide +kernel) rfl rfl hR rfl hl hst hd kk
theorem krX5_131_X5_beginBody {n : Nat} {a0 : Int32} {a1 : Int32} {q : (Int32 × StT)} (F : CallFix p m c cc nL s args (cw :: Gw) RX5) (K : va_K D vwCl (tyL cy) s) (E : EV ee A s s.heap) (hA : ∀ q, s.heap.size ≤ q → A q) (Z : ZG D (wC ad cy st) A s H locs) (hf : f_X5_beginBody n st a0 a1 = some q) (hR : 4 ≤ R.frames ∧ 90 ≤ R.locals) (hl : ls.size = nL) (hst : (rest.map fun v => v.category).sum ≤ 8) (hd : decode cc pc = .ok (.invokevirtual 131, 3)) (kk : ∀ (H1 : Heap) (locs1 : List Loc), ZG D (wC ad cy q.2) A s H1 locs1 → W p l e R s m args below meth c H1 locs1 0 0 Q (F0 m (pc + 3) ls (.int q.1 :: rest))) : W p l e R s m args below meth c H locs 0 0 Q (F0 m pc ls (.int a1 :: .int a0 :: .ref (ad 23) :: rest)) :=
  call_V (q := (RX5, TX5, 14)) (n := 2) (As := [.int a0, .int a1]) (rv := some (.int q.1)) 23 5 F K E hA Z (c_X5_beginBody (l := l) (D := D) (ad := ad) (cy := cy) (ee := ee) hf) ⟨wd275, wd274, wd276, wd277, wd141⟩ (by decide +kernel) rfl rfl hR rfl hl hst hd kk
theorem krX5_106_X4_begin {n : Nat} {a0 : Int32} {q : StT} (F : CallFix p m c cc nL s args (cw :: Gw) RX5) (K : va_K D vwCl (tyL cy) s) (E : EV ee A s s.heap) (hA : ∀ q, s.heap.size ≤ q → A q) (Z : ZG D (wC ad cy st) A s H locs) (hf : f_X4_begin n st a0 = some q) (hR : 1 ≤ R.frames ∧ 21 ≤ R.locals) (hl : ls.size = nL) (hst : (rest.map fun v => v.category).sum ≤ 8) (hd : decode cc pc = .ok (.invokevirtual 106, 3)) (kk : ∀ (H1 : Heap) (locs1 : List Loc), ZG D (wC ad cy q) A s H1 locs1 → W p l e R s m args below meth c H1 locs1 0 0 Q (F0 m (pc + 3) ls (rest))) : W p l e R s m args below meth c H locs 0 0 Q (F0 m pc ls (.int a0 :: .ref (ad 35) :: rest)) :=
  call_V (q := (RX4, TX4, 7)) (n := 1) (As := [.int a0]) (rv := none) 35 4 F K E hA Z (c_X4_begin (l := l) (D := D) (ad := ad) (cy := cy) (ee := ee) hf) ⟨wd279, wd278, wd280, wd281, wd108⟩ (by decide +kernel) rfl rfl hR rfl hl hst hd kk
end
set_option maxRecDepth 100000 in
set_option maxHeartbeats 4000000 in
theorem c_X5_begin {l : Launch} {D : va_G} {ad : Nat → Nat} {cy : Nat → ClassId} {ee : EE} {n : Nat} {st : StT} {x1 : Int32} {res : (Int32 × StT)} (hf : f_X5_begin n st x1 = some res) : CT l yX5_begin cX5_begin 5 (some .int) 6 150 D cy ee (wC ad cy st) (wC ad cy res.2) [.ref (ad 23), .int x1] (some (.int res.1)) := by
  refine CT.of (by decide +kernel) (Nat.le_of_ble_eq_true rfl) ?_
  intro p e s m args below meth c A F hr hk K E hA Z ls hl
  have hl : lv_has ls 5 [(0, .ref (ad 23)), (1, .int x1)] := hl
  have hx := F.1
  have hb := F.2.1
  unfold f_X5_begin at hf
  refine lv_iload_n hx hb dX5_begin_0 rfl (lv_at hl 1 rfl) ?_
  refine lv_if_lt (tgt := 11) hx hb dX5_begin_1 (by decide) (fun c1 => ?_) (fun c1 => ?_)
  · have hf := if_t c1 hf
    refine lv_bipush (v := -7) hx hb dX5_begin_11 (by decide) ?_
    have hf := Option.some.inj hf
    subst hf
    exact ret_i F hr hk Z dX5_begin_13
  have hf := if_f c1 hf
  refine lv_iload_n hx hb dX5_begin_4 rfl (lv_at hl 1 rfl) ?_
  refine lv_sipush (v := 200) hx hb dX5_begin_5 (by decide) ?_
  refine lv_icmp_lt (tgt := 14) hx hb dX5_begin_8 (by decide) (fun c8 => ?_) (fun c8 => ?_)
  · have hf := if_t c8 hf
    refine lv_aload_n hx hb dX5_begin_14 rfl (lv_at hl 0 rfl) ?_
    refine grX5_61_23 F K Z dX5_begin_15 ?_
    refine lv_aload_n hx hb dX5_begin_18 rfl (lv_at hl 0 rfl) ?_
    refine grX5_58_23 F K Z dX5_begin_19 ?_
    refine lv_icmp_lt (tgt := 28) hx hb dX5_begin_22 (by decide) (fun c22 => ?_) (fun c22 => ?_)
    · have hf := if_t c22 hf
      refine lv_aload_n hx hb dX5_begin_28 rfl (lv_at hl 0 rfl) ?_
      refine lv_dup hx hb dX5_begin_29 rfl ?_
      refine grX5_61_23 F K Z dX5_begin_30 ?_
      refine lv_iconst (v := 1) hx hb dX5_begin_33 (by decide) ?_
      refine lv_iadd hx hb dX5_begin_34 ?_
      refine prX5_61_23 F K Z dX5_begin_35 (fun H locs Z => ?_)
      refine lv_aload_n hx hb dX5_begin_38 rfl (lv_at hl 0 rfl) ?_
      refine lv_aload_n hx hb dX5_begin_39 rfl (lv_at hl 0 rfl) ?_
      refine grX5_64_23 F K Z dX5_begin_40 ?_
      refine lv_iload_n hx hb dX5_begin_43 rfl (lv_at hl 1 rfl) ?_
      refine lv_iconst (v := 1) hx hb dX5_begin_44 (by decide) ?_
      refine lv_iadd hx hb dX5_begin_45 ?_
      refine mth_max F (F.2.2.2.2 _ (List.mem_cons_of_mem _ wd202)) hl.1 (Nat.le_of_ble_eq_true rfl) (Nat.le_of_ble_eq_true rfl) dX5_begin_46 ?_
      refine prX5_64_23 F K Z dX5_begin_49 (fun H locs Z => ?_)
      refine lv_aload_n hx hb dX5_begin_52 rfl (lv_at hl 0 rfl) ?_
      refine grX5_30_23 F K Z dX5_begin_53 ?_
      refine lv_iload_n hx hb dX5_begin_56 rfl (lv_at hl 1 rfl) ?_
      obtain ⟨q57, h57, hf⟩ := bind_some hf
      refine krX5_106_X4_begin F K E hA Z h57 ⟨Nat.le_of_ble_eq_true rfl, Nat.le_of_ble_eq_true rfl⟩ hl.1 (Nat.le_of_ble_eq_true rfl) dX5_begin_57 (fun H locs Z => ?_)
      refine lv_aload_n hx hb dX5_begin_60 rfl (lv_at hl 0 rfl) ?_
      refine grX5_23_23 F K Z dX5_begin_61 ?_
      refine lv_iload_n hx hb dX5_begin_64 rfl (lv_at hl 1 rfl) ?_
      obtain ⟨q65, h65, hf⟩ := bind_some hf
      refine krX5_107_X6_goalOf F K E hA Z h65 ⟨Nat.le_of_ble_eq_true rfl, Nat.le_of_ble_eq_true rfl⟩ hl.1 (Nat.le_of_ble_eq_true rfl) dX5_begin_65 (fun H locs Z => ?_)
      refine lv_istore_n (lv' := [(2, .int q65.1), (0, .ref (ad 23)), (1, .int x1)]) hx hb dX5_begin_68 rfl hl (by decide) rfl (fun ls hl => ?_)
      refine lv_aload_n hx hb dX5_begin_69 rfl (lv_at hl 1 rfl) ?_
      refine grX5_23_23 F K Z dX5_begin_70 ?_
      refine lv_iload_n hx hb dX5_begin_73 rfl (lv_at hl 2 rfl) ?_
      refine lv_iload_n hx hb dX5_begin_74 rfl (lv_at hl 0 rfl) ?_
      obtain ⟨q75, h75, hf⟩ := bind_some hf
      refine krX5_110_X6_indexOf F K E hA Z h75 ⟨Nat.le_of_ble_eq_true rfl, Nat.le_of_ble_eq_true rfl⟩ hl.1 (Nat.le_of_ble_eq_true rfl) dX5_begin_75 (fun H locs Z => ?_)
      refine lv_istore_n (lv' := [(3, .int q75.1), (2, .int q65.1), (0, .ref (ad 23)), (1, .int x1)]) hx hb dX5_begin_78 rfl hl (by decide) rfl (fun ls hl => ?_)
      refine lv_iload_n hx hb dX5_begin_79 rfl (lv_at hl 0 rfl) ?_
      refine lv_if_lt (tgt := 97) hx hb dX5_begin_80 (by decide) (fun c80 => ?_) (fun c80 => ?_)
      · have hf := if_t c80 hf
        refine lv_aload_n hx hb dX5_begin_97 rfl (lv_at hl 2 rfl) ?_
        refine grX5_23_23 F K Z dX5_begin_98 ?_
        refine lv_iload_n hx hb dX5_begin_101 rfl (lv_at hl 3 rfl) ?_
        refine lv_iconst (v := 0) hx hb dX5_begin_102 (by decide) ?_
        obtain ⟨q103, h103, hf⟩ := bind_some hf
        refine krX5_110_X6_indexOf F K E hA Z h103 ⟨Nat.le_of_ble_eq_true rfl, Nat.le_of_ble_eq_true rfl⟩ hl.1 (Nat.le_of_ble_eq_true rfl) dX5_begin_103 (fun H locs Z => ?_)
        refine lv_istore_n (lv' := [(3, .int q103.1), (2, .int q65.1), (0, .ref (ad 23)), (1, .int x1)]) hx hb dX5_begin_106 rfl hl (by decide) rfl (fun ls hl => ?_)
        refine lv_iload_n hx hb dX5_begin_107 rfl (lv_at hl 0 rfl) ?_
        refine lv_if_lt (tgt := 134) hx hb dX5_begin_108 (by decide) (fun c108 => ?_) (fun c108 => ?_)
        · have hf := if_t c108 hf
          refine lv_iload_n hx hb dX5_begin_134 rfl (lv_at hl 1 rfl) ?_
          refine lv_iconst (v := 1) hx hb dX5_begin_135 (by decide) ?_
          refine lv_icmp_ne (tgt := 151) hx hb dX5_begin_136 (by decide) (fun c136 => ?_) (fun c136 => ?_)
          · have hf := if_f c136 hf
            refine lv_aload_n hx hb dX5_begin_151 rfl (lv_at hl 2 rfl) ?_
            refine grX5_54_23 F K Z dX5_begin_152 ?_
            refine lv_iload_n hx hb dX5_begin_155 rfl (lv_at hl 1 rfl) ?_
            obtain ⟨q156, h156, hf⟩ := bind_some hf
            refine krX5_126_X1_kindOf_F0 F K E hA Z h156 ⟨Nat.le_of_ble_eq_true rfl, Nat.le_of_ble_eq_true rfl⟩ hl.1 (Nat.le_of_ble_eq_true rfl) dX5_begin_156 (fun H locs Z => ?_)
            refine lv_istore (lv' := [(4, .int q156.1), (3, .int q103.1), (2, .int q65.1), (0, .ref (ad 23)), (1, .int x1)]) hx hb dX5_begin_159 hl (by decide) rfl (fun ls hl => ?_)
            refine lv_iload hx hb dX5_begin_161 (lv_at hl 0 rfl) ?_
            refine lv_iconst (v := 5) hx hb dX5_begin_163 (by decide) ?_
            refine lv_icmp_ne (tgt := 174) hx hb dX5_begin_164 (by decide) (fun c164 => ?_) (fun c164 => ?_)
            · have hf := if_f c164 hf
              refine lv_iload hx hb dX5_begin_174 (lv_at hl 0 rfl) ?_
              refine lv_iconst (v := 3) hx hb dX5_begin_176 (by decide) ?_
              refine lv_icmp_ne (tgt := 204) hx hb dX5_begin_177 (by decide) (fun c177 => ?_) (fun c177 => ?_)
              · have hf := if_f c177 hf
                refine lv_aload_n hx hb dX5_begin_204 rfl (lv_at hl 3 rfl) ?_
                refine lv_iload_n hx hb dX5_begin_205 rfl (lv_at hl 4 rfl) ?_
                obtain ⟨q206, h206, hf⟩ := bind_some hf
                refine krX5_141_X5_firstReducible F K E hA Z h206 ⟨Nat.le_of_ble_eq_true rfl, Nat.le_of_ble_eq_true rfl⟩ hl.1 (Nat.le_of_ble_eq_true rfl) dX5_begin_206 (fun H locs Z => ?_)
                refine lv_istore_n (lv' := [(3, .int q206.1), (4, .int q156.1), (2, .int q65.1), (0, .ref (ad 23)), (1, .int x1)]) hx hb dX5_begin_209 rfl hl (by decide) rfl (fun ls hl => ?_)
                refine lv_iload_n hx hb dX5_begin_210 rfl (lv_at hl 0 rfl) ?_
                refine lv_if_lt (tgt := 221) hx hb dX5_begin_211 (by decide) (fun c211 => ?_) (fun c211 => ?_)
                · have hf := if_t c211 hf
                  refine lv_iload hx hb dX5_begin_221 (lv_at hl 1 rfl) ?_
                  refine lv_iconst (v := 4) hx hb dX5_begin_223 (by decide) ?_
                  refine lv_icmp_ne (tgt := 252) hx hb dX5_begin_224 (by decide) (fun c224 => ?_) (fun c224 => ?_)
                  · have hf := if_f c224 hf
                    refine lv_aload_n hx hb dX5_begin_252 rfl (lv_at hl 3 rfl) ?_
                    refine lv_iload_n hx hb dX5_begin_253 rfl (lv_at hl 4 rfl) ?_
                    refine lv_iconst (v := 0) hx hb dX5_begin_254 (by decide) ?_
                    obtain ⟨q255, h255, hf⟩ := bind_some hf
                    refine krX5_147_X5_tryNested F K E hA Z h255 ⟨Nat.le_of_ble_eq_true rfl, Nat.le_of_ble_eq_true rfl⟩ hl.1 (Nat.le_of_ble_eq_true rfl) dX5_begin_255 (fun H locs Z => ?_)
                    have hf := Option.some.inj hf
                    subst hf
                    exact ret_i F hr hk Z dX5_begin_258
                  have hf := if_t c224 hf
                  refine lv_aload_n hx hb dX5_begin_227 rfl (lv_at hl 3 rfl) ?_
                  refine grX5_23_23 F K Z dX5_begin_228 ?_
                  refine lv_iload_n hx hb dX5_begin_231 rfl (lv_at hl 4 rfl) ?_
                  refine lv_iconst (v := -1) hx hb dX5_begin_232 (by decide) ?_
                  refine lv_aload_n hx hb dX5_begin_233 rfl (lv_at hl 3 rfl) ?_
                  refine grX5_54_23 F K Z dX5_begin_234 ?_
                  refine lv_iload_n hx hb dX5_begin_237 rfl (lv_at hl 2 rfl) ?_
                  obtain ⟨q238, h238, hf⟩ := bind_some hf
                  refine krX5_134_X1_firstOf_F0 F K E hA Z h238 ⟨Nat.le_of_ble_eq_true rfl, Nat.le_of_ble_eq_true rfl⟩ hl.1 (Nat.le_of_ble_eq_true rfl) dX5_begin_238 (fun H locs Z => ?_)
                  obtain ⟨q241, h241, hf⟩ := bind_some hf
                  refine krX5_137_X6_follow F K E hA Z h241 ⟨Nat.le_of_ble_eq_true rfl, Nat.le_of_ble_eq_true rfl⟩ hl.1 (Nat.le_of_ble_eq_true rfl) dX5_begin_241 (fun H locs Z => ?_)
                  refine lv_aload_n hx hb dX5_begin_244 rfl (lv_at hl 3 rfl) ?_
                  refine lv_iload_n hx hb dX5_begin_245 rfl (lv_at hl 4 rfl) ?_
                  refine lv_bipush (v := 6) hx hb dX5_begin_246 (by decide) ?_
                  obtain ⟨q248, h248, hf⟩ := bind_some hf
                  refine krX5_97_X5_waitFor F K E hA Z h248 ⟨Nat.le_of_ble_eq_true rfl, Nat.le_of_ble_eq_true rfl⟩ hl.1 (Nat.le_of_ble_eq_true rfl) dX5_begin_248 (fun H locs Z => ?_)
                  have hf := Option.some.inj hf
                  subst hf
                  exact ret_i F hr hk Z dX5_begin_251
                have hf := if_f c211 hf
                refine lv_aload_n hx hb dX5_begin_214 rfl (lv_at hl 3 rfl) ?_
                refine lv_iload_n hx hb dX5_begin_215 rfl (lv_at hl 4 rfl) ?_
                refine lv_iload_n hx hb dX5_begin_216 rfl (lv_at hl 0 rfl) ?_
                obtain ⟨q217, h217, hf⟩ := bind_some hf
                refine krX5_144_X5_reduce F K E hA Z h217 ⟨Nat.le_of_ble_eq_true rfl, Nat.le_of_ble_eq_true rfl⟩ hl.1 (Nat.le_of_ble_eq_true rfl) dX5_begin_217 (fun H locs Z => ?_)
                have hf := Option.some.inj hf
                subst hf
                exact ret_i F hr hk Z dX5_begin_220
              have hf := if_t c177 hf
              refine lv_aload_n hx hb dX5_begin_180 rfl (lv_at hl 3 rfl) ?_
              refine grX5_23_23 F K Z dX5_begin_181 ?_
              refine lv_iload_n hx hb dX5_begin_184 rfl (lv_at hl 4 rfl) ?_
              refine lv_iconst (v := -1) hx hb dX5_begin_185 (by decide) ?_
              refine lv_aload_n hx hb dX5_begin_186 rfl (lv_at hl 3 rfl) ?_
              refine grX5_54_23 F K Z dX5_begin_187 ?_
              refine lv_iload_n hx hb dX5_begin_190 rfl (lv_at hl 2 rfl) ?_
              obtain ⟨q191, h191, hf⟩ := bind_some hf
              refine krX5_134_X1_firstOf_F0 F K E hA Z h191 ⟨Nat.le_of_ble_eq_true rfl, Nat.le_of_ble_eq_true rfl⟩ hl.1 (Nat.le_of_ble_eq_true rfl) dX5_begin_191 (fun H locs Z => ?_)
              obtain ⟨q194, h194, hf⟩ := bind_some hf
              refine krX5_137_X6_follow F K E hA Z h194 ⟨Nat.le_of_ble_eq_true rfl, Nat.le_of_ble_eq_true rfl⟩ hl.1 (Nat.le_of_ble_eq_true rfl) dX5_begin_194 (fun H locs Z => ?_)
              refine lv_aload_n hx hb dX5_begin_197 rfl (lv_at hl 3 rfl) ?_
              refine lv_iload_n hx hb dX5_begin_198 rfl (lv_at hl 4 rfl) ?_
              refine lv_iconst (v := 2) hx hb dX5_begin_199 (by decide) ?_
              obtain ⟨q200, h200, hf⟩ := bind_some hf
              refine krX5_97_X5_waitFor F K E hA Z h200 ⟨Nat.le_of_ble_eq_true rfl, Nat.le_of_ble_eq_true rfl⟩ hl.1 (Nat.le_of_ble_eq_true rfl) dX5_begin_200 (fun H locs Z => ?_)
              have hf := Option.some.inj hf
              subst hf
              exact ret_i F hr hk Z dX5_begin_203
            have hf := if_t c164 hf
            refine lv_aload_n hx hb dX5_begin_167 rfl (lv_at hl 3 rfl) ?_
            refine lv_iload_n hx hb dX5_begin_168 rfl (lv_at hl 4 rfl) ?_
            refine lv_iload_n hx hb dX5_begin_169 rfl (lv_at hl 2 rfl) ?_
            obtain ⟨q170, h170, hf⟩ := bind_some hf
            refine krX5_131_X5_beginBody F K E hA Z h170 ⟨Nat.le_of_ble_eq_true rfl, Nat.le_of_ble_eq_true rfl⟩ hl.1 (Nat.le_of_ble_eq_true rfl) dX5_begin_170 (fun H locs Z => ?_)
            have hf := Option.some.inj hf
            subst hf
            exact ret_i F hr hk Z dX5_begin_173
          have hf := if_t c136 hf
          refine lv_aload_n hx hb dX5_begin_139 rfl (lv_at hl 2 rfl) ?_
          refine lv_aload_n hx hb dX5_begin_140 rfl (lv_at hl 2 rfl) ?_
          refine grX5_16_23 F K Z dX5_begin_141 ?_
          obtain ⟨q144, h144, hf⟩ := bind_some hf
          refine krX5_122_X7_unit_T1 F K E hA Z h144 ⟨Nat.le_of_ble_eq_true rfl, Nat.le_of_ble_eq_true rfl⟩ hl.1 (Nat.le_of_ble_eq_true rfl) dX5_begin_144 (fun H locs Z => ?_)
          obtain ⟨q147, h147, hf⟩ := bind_some hf
          refine krX5_116_X5_provedBy F K E hA Z h147 ⟨Nat.le_of_ble_eq_true rfl, Nat.le_of_ble_eq_true rfl⟩ hl.1 (Nat.le_of_ble_eq_true rfl) dX5_begin_147 (fun H locs Z => ?_)
          have hf := Option.some.inj hf
          subst hf
          exact ret_i F hr hk Z dX5_begin_150
        have hf := if_f c108 hf
        refine lv_aload_n hx hb dX5_begin_111 rfl (lv_at hl 2 rfl) ?_
        refine lv_aload_n hx hb dX5_begin_112 rfl (lv_at hl 2 rfl) ?_
        refine grX5_16_23 F K Z dX5_begin_113 ?_
        refine lv_bipush (v := 88) hx hb dX5_begin_116 (by decide) ?_
        refine lv_aload_n hx hb dX5_begin_118 rfl (lv_at hl 2 rfl) ?_
        refine grX5_23_23 F K Z dX5_begin_119 ?_
        refine lv_iload_n hx hb dX5_begin_122 rfl (lv_at hl 3 rfl) ?_
        refine lv_iload_n hx hb dX5_begin_123 rfl (lv_at hl 0 rfl) ?_
        obtain ⟨q124, h124, hf⟩ := bind_some hf
        refine krX5_113_X6_termAt F K E hA Z h124 ⟨Nat.le_of_ble_eq_true rfl, Nat.le_of_ble_eq_true rfl⟩ hl.1 (Nat.le_of_ble_eq_true rfl) dX5_begin_124 (fun H locs Z => ?_)
        obtain ⟨q127, h127, hf⟩ := bind_some hf
        refine krX5_119_X7_one_T1 F K E hA Z h127 ⟨Nat.le_of_ble_eq_true rfl, Nat.le_of_ble_eq_true rfl⟩ hl.1 (Nat.le_of_ble_eq_true rfl) dX5_begin_127 (fun H locs Z => ?_)
        obtain ⟨q130, h130, hf⟩ := bind_some hf
        refine krX5_116_X5_provedBy F K E hA Z h130 ⟨Nat.le_of_ble_eq_true rfl, Nat.le_of_ble_eq_true rfl⟩ hl.1 (Nat.le_of_ble_eq_true rfl) dX5_begin_130 (fun H locs Z => ?_)
        have hf := Option.some.inj hf
        subst hf
        exact ret_i F hr hk Z dX5_begin_133
      have hf := if_f c80 hf
      refine lv_aload_n hx hb dX5_begin_83 rfl (lv_at hl 2 rfl) ?_
      refine lv_aload_n hx hb dX5_begin_84 rfl (lv_at hl 2 rfl) ?_
      refine grX5_23_23 F K Z dX5_begin_85 ?_
      refine lv_iload_n hx hb dX5_begin_88 rfl (lv_at hl 3 rfl) ?_
      refine lv_iload_n hx hb dX5_begin_89 rfl (lv_at hl 0 rfl) ?_
      obtain ⟨q90, h90, hf⟩ := bind_some hf
      refine krX5_113_X6_termAt F K E hA Z h90 ⟨Nat.le_of_ble_eq_true rfl, Nat.le_of_ble_eq_true rfl⟩ hl.1 (Nat.le_of_ble_eq_true rfl) dX5_begin_90 (fun H locs Z => ?_)
      obtain ⟨q93, h93, hf⟩ := bind_some hf
      refine krX5_116_X5_provedBy F K E hA Z h93 ⟨Nat.le_of_ble_eq_true rfl, Nat.le_of_ble_eq_true rfl⟩ hl.1 (Nat.le_of_ble_eq_true rfl) dX5_begin_93 (fun H locs Z => ?_)
      have hf := Option.some.inj hf
      subst hf
      exact ret_i F hr hk Z dX5_begin_96
    have hf := if_f c22 hf
    refine lv_bipush (v := -6) hx hb dX5_begin_25 (by decide) ?_
    have hf := Option.some.inj hf
    subst hf
    exact ret_i F hr hk Z dX5_begin_27
  have hf := if_f c8 hf
  refine lv_bipush (v := -7) hx hb dX5_begin_11 (by decide) ?_
  have hf := Option.some.inj hf
  subst hf
  exact ret_i F hr hk Z dX5_begin_13
def f_X5_run_1_159 (n : Nat) (k101 : StT → Int32 → Int32 → Int32 → Option (Int32 × StT)) (st : StT) (x5 : Int32) (x6 : Int32) (x7 : Int32) : Option (Int32 × StT) := if x6 = (2 : Int32) then (k101 st (x5 + (1 : Int32)) x6 (x7 + (1 : Int32))) else (k101 st (x5 + (-1 : Int32)) x6 (x7 + (1 : Int32)))
def f_X5_run_1_101 (n : Nat) : Nat → StT → Int32 → Int32 → Int32 → Option (Int32 × StT)
  | 0, _, _, _, _ => none
  | k + 1, st, x5, x6, x7 => if (4002 : Int32) ≤ x7 then (some (((uF st 22 x6).1 22), (uF st 22 x6))) else (if x5 < 0 then (some (((uF st 22 x6).1 22), (uF st 22 x6))) else (if x6 < 0 then (some (((uF st 22 x6).1 22), (uF st 22 x6))) else (if x6 = (2 : Int32) then ((f_X5_begin n st x5).bind fun q128 => (f_X5_run_1_159 n (f_X5_run_1_101 n k) q128.2 x5 q128.1 x7)) else (if x6 = (1 : Int32) then ((f_X5_goOnProved n st x5).bind fun q145 => (f_X5_run_1_159 n (f_X5_run_1_101 n k) q145.2 x5 q145.1 x7)) else ((f_X5_goOnFailed n st x5).bind fun q154 => (f_X5_run_1_159 n (f_X5_run_1_101 n k) q154.2 x5 q154.1 x7))))))
def f_X5_run_1_51 (n : Nat) : Nat → StT → Int32 → Int32 → Option (Int32 × StT)
  | 0, _, _, _ => none
  | k + 1, st, x2, x5 => if x2 ≤ x5 then (f_X5_run_1_101 n n st (0 : Int32) (2 : Int32) (0 : Int32)) else (if (20 : Int32) ≤ x5 then (f_X5_run_1_101 n n st (0 : Int32) (2 : Int32) (0 : Int32)) else (if inB x5 20 = true then ((f_X7_hypothesis_T1 n st x5).bind fun q79 => ((f_X6_comes n q79.2 (0 : Int32) (st.2.1 0 (x5).toNatClampNeg) q79.1).bind fun q82 => (f_X5_run_1_51 n k q82.2 x2 (x5 + (1 : Int32))))) else none))
def f_X5_run_1 (n : Nat) (st : StT) (x2 : Int32) (x3 : Int32) (x4 : Int32) : Option (Int32 × StT) := (f_X7_drop_T1 n (uF (uF (uF (uF (uF st 19 x4) 20 (0 : Int32)) 21 (0 : Int32)) 23 x2) 24 (-1 : Int32))).bind fun q30 => ((f_X4_drop n q30).bind fun q37 => ((f_X6_begin n q37 x3).bind fun q45 => (f_X5_run_1_51 n n q45 x2 (0 : Int32))))
theorem wd282 : Cond.methodLink RX5 74 yX6_begin ∈ Gw := gT4 (List.mem_of_getElem? (i := 66) rfl) rfl
theorem wd283 : Cond.code yX6_begin prog_8_method_9_code 2 none ∈ Gw := gT4 (List.mem_of_getElem? (i := 69) rfl) rfl
theorem wd284 : Cond.instanceMethod yX6_begin ∈ Gw := gT4 (List.mem_of_getElem? (i := 67) rfl) rfl
theorem wd285 : Cond.selects RX6 yX6_begin yX6_begin ∈ Gw := gT4 (List.mem_of_getElem? (i := 68) rfl) rfl
theorem wd286 : Cond.methodLink RX5 73 yX4_drop ∈ Gw := gT4 (List.mem_of_getElem? (i := 62) rfl) rfl
theorem wd287 : Cond.code yX4_drop prog_6_method_2_code 1 none ∈ Gw := gT4 (List.mem_of_getElem? (i := 65) rfl) rfl
theorem wd288 : Cond.instanceMethod yX4_drop ∈ Gw := gT4 (List.mem_of_getElem? (i := 63) rfl) rfl
theorem wd289 : Cond.selects RX4 yX4_drop yX4_drop ∈ Gw := gT4 (List.mem_of_getElem? (i := 64) rfl) rfl
theorem wd290 : Cond.methodLink RX5 70 yX7_drop ∈ Gw := gT4 (List.mem_of_getElem? (i := 58) rfl) rfl
theorem wd291 : Cond.code yX7_drop prog_9_method_4_code 1 none ∈ Gw := gT4 (List.mem_of_getElem? (i := 61) rfl) rfl
theorem wd292 : Cond.instanceMethod yX7_drop ∈ Gw := gT4 (List.mem_of_getElem? (i := 59) rfl) rfl
theorem wd293 : Cond.selects RX7 yX7_drop yX7_drop ∈ Gw := gT4 (List.mem_of_getElem? (i := 60) rfl) rfl
theorem wd294 : Cond.methodLink RX5 90 yX5_goOnFailed ∈ Gw := gT4 (List.mem_of_getElem? (i := 224) rfl) rfl
theorem wd295 : Cond.code yX5_goOnFailed prog_7_method_22_code 2 (some .int) ∈ Gw := gT4 (List.mem_of_getElem? (i := 227) rfl) rfl
theorem wd296 : Cond.instanceMethod yX5_goOnFailed ∈ Gw := gT4 (List.mem_of_getElem? (i := 226) rfl) rfl
theorem wd297 : Cond.selects RX5 yX5_goOnFailed yX5_goOnFailed ∈ Gw := gP3 (q := (yX5_goOnFailed, 14)) (List.mem_of_getElem? (i := 12) rfl)
theorem wd298 : Cond.methodLink RX5 87 yX5_goOnProved ∈ Gw := gT4 (List.mem_of_getElem? (i := 211) rfl) rfl
theorem wd299 : Cond.code yX5_goOnProved prog_7_method_19_code 3 (some .int) ∈ Gw := gT4 (List.mem_of_getElem? (i := 214) rfl) rfl
theorem wd300 : Cond.instanceMethod yX5_goOnProved ∈ Gw := gT4 (List.mem_of_getElem? (i := 213) rfl) rfl
theorem wd301 : Cond.selects RX5 yX5_goOnProved yX5_goOnProved ∈ Gw := gP3 (q := (yX5_goOnProved, 14)) (List.mem_of_getElem? (i := 9) rfl)
theorem wd302 : Cond.methodLink RX5 85 yX5_begin ∈ Gw := gT4 (List.mem_of_getElem? (i := 91) rfl) rfl
theorem wd303 : Cond.code yX5_begin prog_7_method_8_code 5 (some .int) ∈ Gw := gT4 (List.mem_of_getElem? (i := 94) rfl) rfl
theorem wd304 : Cond.instanceMethod yX5_begin ∈ Gw := gT4 (List.mem_of_getElem? (i := 93) rfl) rfl
theorem wd305 : Cond.selects RX5 yX5_begin yX5_begin ∈ Gw := gP2 (q := (yX5_begin, 14)) (List.mem_of_getElem? (i := 10) rfl)
section
variable {p : Program} {l : Launch} {e : Env} {R : Room} {s : State} {m : MethodId} {args : Array Value} {below : List Frame} {meth : Method} {c : Code} {H : Heap} {locs : List Loc} {Q : State → Prop}
variable {cc : ByteArray} {nL pc : Nat} {ls : Array Slot} {rest : List Value} {D : va_G} {A : Nat → Prop} {cw : Cond} {ad : Nat → Nat} {cy : Nat → ClassId} {ee : EE} {st : StT} {own : String}
theorem krX5_74_X6_begin {n : Nat} {a0 : Int32} {q : StT} (F : CallFix p m c cc nL s args (cw :: Gw) RX5) (K : va_K D vwCl (tyL cy) s) (E : EV ee A s s.heap) (hA : ∀ q, s.heap.size ≤ q → A q) (Z : ZG D (wC ad cy st) A s H locs) (hf : f_X6_begin n st a0 = some q) (hR : 1 ≤ R.frames ∧ 21 ≤ R.locals) (hl : ls.size = nL) (hst : (rest.map fun v => v.category).sum ≤ 8) (hd : decode cc pc = .ok (.invokevirtual 74, 3)) (kk : ∀ (H1 : Heap) (locs1 : List Loc), ZG D (wC ad cy q) A s H1 locs1 → W p l e R s m args below meth c H1 locs1 0 0 Q (F0 m (pc + 3) ls (rest))) : W p l e R s m args below meth c H locs 0 0 Q (F0 m pc ls (.int a0 :: .ref (ad 30) :: rest)) :=
  call_V (q := (RX6, TX6, 5)) (n := 1) (As := [.int a0]) (rv := none) 30 6 F K E hA Z (c_X6_begin (l := l) (D := D) (ad := ad) (cy := cy) (ee := ee) hf) ⟨wd283, wd282, wd284, wd285, wd78⟩ (by decide +kernel) rfl rfl hR rfl hl hst hd kk
theorem krX5_73_X4_drop {n : Nat}  {q : StT} (F : CallFix p m c cc nL s args (cw :: Gw) RX5) (K : va_K D vwCl (tyL cy) s) (E : EV ee A s s.heap) (hA : ∀ q, s.heap.size ≤ q → A q) (Z : ZG D (wC ad cy st) A s H locs) (hf : f_X4_drop n st = some q) (hR : 1 ≤ R.frames ∧ 20 ≤ R.locals) (hl : ls.size = nL) (hst : (rest.map fun v => v.category).sum ≤ 8) (hd : decode cc pc = .ok (.invokevirtual 73, 3)) (kk : ∀ (H1 : Heap) (locs1 : List Loc), ZG D (wC ad cy q) A s H1 locs1 → W p l e R s m args below meth c H1 locs1 0 0 Q (F0 m (pc + 3) ls (rest))) : W p l e R s m args below meth c H locs 0 0 Q (F0 m pc ls (.ref (ad 35) :: rest)) :=
  call_V (q := (RX4, TX4, 7)) (n := 0) (As := []) (rv := none) 35 4 F K E hA Z (c_X4_drop (l := l) (D := D) (ad := ad) (cy := cy) (ee := ee) hf) ⟨wd287, wd286, wd288, wd289, wd108⟩ (by decide +kernel) rfl rfl hR rfl hl hst hd kk
theorem krX5_70_X7_drop_T1 {n : Nat}  {q : StT} (F : CallFix p m c cc nL s args (cw :: Gw) RX5) (K : va_K D vwCl (tyL cy) s) (E : EV ee A s s.heap) (hA : ∀ q, s.heap.size ≤ q → A q) (Z : ZG D (wC ad cy st) A s H locs) (hf : f_X7_drop_T1 n st = some q) (hR : 1 ≤ R.frames ∧ 20 ≤ R.locals) (hl : ls.size = nL) (hst : (rest.map fun v => v.category).sum ≤ 8) (hd : decode cc pc = .ok (.invokevirtual 70, 3)) (kk : ∀ (H1 : Heap) (locs1 : List Loc), ZG D (wC ad cy q) A s H1 locs1 → W p l e R s m args below meth c H1 locs1 0 0 Q (F0 m (pc + 3) ls (rest))) : W p l e R s m args below meth c H locs 0 0 Q (F0 m pc ls (.ref (ad 24) :: rest)) :=
  call_V (q := (RX7, TX7, 7)) (n := 0) (As := []) (rv := none) 24 7 F K E hA Z (c_X7_drop_T1 (l := l) (D := D) (ad := ad) (cy := cy) (ee := ee) hf) ⟨wd291, wd290, wd292, wd293, wd60⟩ (by decide +kernel) rfl rfl hR rfl hl hst hd kk
theorem krX5_90_X5_goOnFailed {n : Nat} {a0 : Int32} {q : (Int32 × StT)} (F : CallFix p m c cc nL s args (cw :: Gw) RX5) (K : va_K D vwCl (tyL cy) s) (E : EV ee A s s.heap) (hA : ∀ q, s.heap.size ≤ q → A q) (Z : ZG D (wC ad cy st) A s H locs) (hf : f_X5_goOnFailed n st a0 = some q) (hR : 6 ≤ R.frames ∧ 142 ≤ R.locals) (hl : ls.size = nL) (hst : (rest.map fun v => v.category).sum ≤ 8) (hd : decode cc pc = .ok (.invokevirtual 90, 3)) (kk : ∀ (H1 : Heap) (locs1 : List Loc), ZG D (wC ad cy q.2) A s H1 locs1 → W p l e R s m args below meth c H1 locs1 0 0 Q (F0 m (pc + 3) ls (.int q.1 :: rest))) : W p l e R s m args below meth c H locs 0 0 Q (F0 m pc ls (.int a0 :: .ref (ad 23) :: rest)) :=
  call_V (q := (RX5, TX5, 14)) (n := 1) (As := [.int a0]) (rv := some (.int q.1)) 23 5 F K E hA Z (c_X5_goOnFailed (l := l) (D := D) (ad := ad) (cy := cy) (ee := ee) hf) ⟨wd295, wd294, wd296, wd297, wd141⟩ (by decide +kernel) rfl rfl hR rfl hl hst hd kk
theorem krX5_87_X5_goOnProved {n : Nat} {a0 : Int32} {q : (Int32 × StT)} (F : CallFix p m c cc nL s args (cw :: Gw) RX5) (K : va_K D vwCl (tyL cy) s) (E : EV ee A s s.heap) (hA : ∀ q, s.heap.size ≤ q → A q) (Z : ZG D (wC ad cy st) A s H locs) (hf : f_X5_goOnProved n st a0 = some q) (hR : 5 ≤ R.frames ∧ 115 ≤ R.locals) (hl : ls.size = nL) (hst : (rest.map fun v => v.category).sum ≤ 8) (hd : decode cc pc = .ok (.invokevirtual 87, 3)) (kk : ∀ (H1 : Heap) (locs1 : List Loc), ZG D (wC ad cy q.2) A s H1 locs1 → W p l e R s m args below meth c H1 locs1 0 0 Q (F0 m (pc + 3) ls (.int q.1 :: rest))) : W p l e R s m args below meth c H locs 0 0 Q (F0 m pc ls (.int a0 :: .ref (ad 23) :: rest)) :=
  call_V (q := (RX5, TX5, 14)) (n := 1) (As := [.int a0]) (rv := some (.int q.1)) 23 5 F K E hA Z (c_X5_goOnProved (l := l) (D := D) (ad := ad) (cy := cy) (ee := ee) hf) ⟨wd299, wd298, wd300, wd301, wd141⟩ (by decide +kernel) rfl rfl hR rfl hl hst hd kk
theorem krX5_85_X5_begin {n : Nat} {a0 : Int32} {q : (Int32 × StT)} (F : CallFix p m c cc nL s args (cw :: Gw) RX5) (K : va_K D vwCl (tyL cy) s) (E : EV ee A s s.heap) (hA : ∀ q, s.heap.size ≤ q → A q) (Z : ZG D (wC ad cy st) A s H locs) (hf : f_X5_begin n st a0 = some q) (hR : 7 ≤ R.frames ∧ 174 ≤ R.locals) (hl : ls.size = nL) (hst : (rest.map fun v => v.category).sum ≤ 8) (hd : decode cc pc = .ok (.invokevirtual 85, 3)) (kk : ∀ (H1 : Heap) (locs1 : List Loc), ZG D (wC ad cy q.2) A s H1 locs1 → W p l e R s m args below meth c H1 locs1 0 0 Q (F0 m (pc + 3) ls (.int q.1 :: rest))) : W p l e R s m args below meth c H locs 0 0 Q (F0 m pc ls (.int a0 :: .ref (ad 23) :: rest)) :=
  call_V (q := (RX5, TX5, 14)) (n := 1) (As := [.int a0]) (rv := some (.int q.1)) 23 5 F K E hA Z (c_X5_begin (l := l) (D := D) (ad := ad) (cy := cy) (ee := ee) hf) ⟨wd303, wd302, wd304, wd305, wd141⟩ (by decide +kernel) rfl rfl hR rfl hl hst hd kk
end
set_option maxRecDepth 100000 in
set_option maxHeartbeats 4000000 in
theorem b_X5_run_1_159 {p : Program} {l : Launch} {e : Env} {s : State} {m : MethodId} {args : Array Value} {below : List Frame} {meth : Method} {c : Code} {D : va_G} {A : Nat → Prop} {ad : Nat → Nat} {cy : Nat → ClassId} {ee : EE} {n : Nat} {res : (Int32 × StT)} (F : CallFix p m c cX5_run 8 s args (Cond.code yX5_run cX5_run 8 (some .int) :: Gw) yX5_run.cls) (hr : meth.sig.returnType = (some .int)) (hk : meth.locks = false) (K : va_K D vwCl (tyL cy) s) (E : EV ee A s s.heap) (hA : ∀ q, s.heap.size ≤ q → A q) {k101 : StT → Int32 → Int32 → Int32 → Option (Int32 × StT)} (hk101 : ∀ (st : StT) (x5 : Int32) (x6 : Int32) (x7 : Int32), k101 st x5 x6 x7 = some res → ∀ (H : Heap) (locs : List Loc) (ls : Array Slot), ZG D (wC ad cy st) A s H locs → lv_has ls 8 [(0, .ref (ad 23)), (5, .int x5), (6, .int x6), (7, .int x7)] → W p l e { frames := 7, cells := 0, slots := 0, locals := 174 } s m args below meth c H locs 0 0 (MQ below (QC D (some (.int res.1)) (wC ad cy res.2) A) args s 0 0 A) (F0 m 101 ls [])) : ∀ (st : StT) (x5 : Int32) (x6 : Int32) (x7 : Int32), f_X5_run_1_159 n k101 st x5 x6 x7 = some res → ∀ (H : Heap) (locs : List Loc) (ls : Array Slot), ZG D (wC ad cy st) A s H locs → lv_has ls 8 [(0, .ref (ad 23)), (5, .int x5), (6, .int x6), (7, .int x7)] → W p l e { frames := 7, cells := 0, slots := 0, locals := 174 } s m args below meth c H locs 0 0 (MQ below (QC D (some (.int res.1)) (wC ad cy res.2) A) args s 0 0 A) (F0 m 159 ls []) := by
  have hx := F.1
  have hb := F.2.1
  intro st x5 x6 x7 hf H locs ls Z hl
  unfold f_X5_run_1_159 at hf
  refine lv_iload hx hb dX5_run_159 (lv_at hl 1 rfl) ?_
  refine lv_iload hx hb dX5_run_161 (lv_at hl 2 rfl) ?_
  refine lv_iconst (v := 2) hx hb dX5_run_163 (by decide) ?_
  refine lv_icmp_ne (tgt := 171) hx hb dX5_run_164 (by decide) (fun c164 => ?_) (fun c164 => ?_)
  · have hf := if_f c164 hf
    refine lv_iconst (v := -1) hx hb dX5_run_171 (by decide) ?_
    refine lv_iadd hx hb dX5_run_172 ?_
    refine lv_istore (lv' := [(5, .int (x5 + (-1 : Int32))), (0, .ref (ad 23)), (6, .int x6), (7, .int x7)]) hx hb dX5_run_173 hl (by decide) rfl (fun ls hl => ?_)
    refine lv_iinc (v := (x7 + (1 : Int32))) (lv' := [(7, .int (x7 + (1 : Int32))), (5, .int (x5 + (-1 : Int32))), (0, .ref (ad 23)), (6, .int x6)]) hx hb dX5_run_175 hl (k := 3) rfl (congrArg (fun z => x7 + z) (by decide)) (by decide) rfl (fun ls hl => ?_)
    refine lv_goto (tgt := 101) hx hb dX5_run_178 (by decide) ?_
    exact hk101 _ _ _ _ hf _ _ _ Z (lv_sub hl [2, 1, 3, 0] rfl)
  have hf := if_t c164 hf
  refine lv_iconst (v := 1) hx hb dX5_run_167 (by decide) ?_
  refine lv_goto (tgt := 172) hx hb dX5_run_168 (by decide) ?_
  refine lv_iadd hx hb dX5_run_172 ?_
  refine lv_istore (lv' := [(5, .int (x5 + (1 : Int32))), (0, .ref (ad 23)), (6, .int x6), (7, .int x7)]) hx hb dX5_run_173 hl (by decide) rfl (fun ls hl => ?_)
  refine lv_iinc (v := (x7 + (1 : Int32))) (lv' := [(7, .int (x7 + (1 : Int32))), (5, .int (x5 + (1 : Int32))), (0, .ref (ad 23)), (6, .int x6)]) hx hb dX5_run_175 hl (k := 3) rfl (congrArg (fun z => x7 + z) (by decide)) (by decide) rfl (fun ls hl => ?_)
  refine lv_goto (tgt := 101) hx hb dX5_run_178 (by decide) ?_
  exact hk101 _ _ _ _ hf _ _ _ Z (lv_sub hl [2, 1, 3, 0] rfl)
set_option maxRecDepth 100000 in
set_option maxHeartbeats 4000000 in
theorem b_X5_run_1_101 {p : Program} {l : Launch} {e : Env} {s : State} {m : MethodId} {args : Array Value} {below : List Frame} {meth : Method} {c : Code} {D : va_G} {A : Nat → Prop} {ad : Nat → Nat} {cy : Nat → ClassId} {ee : EE} {n : Nat} {res : (Int32 × StT)} (F : CallFix p m c cX5_run 8 s args (Cond.code yX5_run cX5_run 8 (some .int) :: Gw) yX5_run.cls) (hr : meth.sig.returnType = (some .int)) (hk : meth.locks = false) (K : va_K D vwCl (tyL cy) s) (E : EV ee A s s.heap) (hA : ∀ q, s.heap.size ≤ q → A q) : ∀ (k : Nat) (st : StT) (x5 : Int32) (x6 : Int32) (x7 : Int32), f_X5_run_1_101 n k st x5 x6 x7 = some res → ∀ (H : Heap) (locs : List Loc) (ls : Array Slot), ZG D (wC ad cy st) A s H locs → lv_has ls 8 [(0, .ref (ad 23)), (5, .int x5), (6, .int x6), (7, .int x7)] → W p l e { frames := 7, cells := 0, slots := 0, locals := 174 } s m args below meth c H locs 0 0 (MQ below (QC D (some (.int res.1)) (wC ad cy res.2) A) args s 0 0 A) (F0 m 101 ls []) := by
  have hx := F.1
  have hb := F.2.1
  intro k
  induction k with
  | zero =>
    intro st x5 x6 x7 hf
    exact absurd hf (by simp [f_X5_run_1_101])
  | succ k ih =>
    intro st x5 x6 x7 hf H locs ls Z hl
    rw [f_X5_run_1_101] at hf
    refine lv_iload hx hb dX5_run_101 (lv_at hl 3 rfl) ?_
    refine lv_sipush (v := 4002) hx hb dX5_run_103 (by decide) ?_
    refine lv_icmp_ge (tgt := 181) hx hb dX5_run_106 (by decide) (fun c106 => ?_) (fun c106 => ?_)
    · have hf := if_t c106 hf
      refine lv_aload_n hx hb dX5_run_181 rfl (lv_at hl 0 rfl) ?_
      refine lv_iload hx hb dX5_run_182 (lv_at hl 2 rfl) ?_
      refine prX5_47_23 F K Z dX5_run_184 (fun H locs Z => ?_)
      refine lv_aload_n hx hb dX5_run_187 rfl (lv_at hl 0 rfl) ?_
      refine grX5_47_23 F K Z dX5_run_188 ?_
      have hf := Option.some.inj hf
      subst hf
      exact ret_i F hr hk Z dX5_run_191
    have hf := if_f c106 hf
    refine lv_iload hx hb dX5_run_109 (lv_at hl 1 rfl) ?_
    refine lv_if_lt (tgt := 181) hx hb dX5_run_111 (by decide) (fun c111 => ?_) (fun c111 => ?_)
    · have hf := if_t c111 hf
      refine lv_aload_n hx hb dX5_run_181 rfl (lv_at hl 0 rfl) ?_
      refine lv_iload hx hb dX5_run_182 (lv_at hl 2 rfl) ?_
      refine prX5_47_23 F K Z dX5_run_184 (fun H locs Z => ?_)
      refine lv_aload_n hx hb dX5_run_187 rfl (lv_at hl 0 rfl) ?_
      refine grX5_47_23 F K Z dX5_run_188 ?_
      have hf := Option.some.inj hf
      subst hf
      exact ret_i F hr hk Z dX5_run_191
    have hf := if_f c111 hf
    refine lv_iload hx hb dX5_run_114 (lv_at hl 2 rfl) ?_
    refine lv_if_lt (tgt := 181) hx hb dX5_run_116 (by decide) (fun c116 => ?_) (fun c116 => ?_)
    · have hf := if_t c116 hf
      refine lv_aload_n hx hb dX5_run_181 rfl (lv_at hl 0 rfl) ?_
      refine lv_iload hx hb dX5_run_182 (lv_at hl 2 rfl) ?_
      refine prX5_47_23 F K Z dX5_run_184 (fun H locs Z => ?_)
      refine lv_aload_n hx hb dX5_run_187 rfl (lv_at hl 0 rfl) ?_
      refine grX5_47_23 F K Z dX5_run_188 ?_
      have hf := Option.some.inj hf
      subst hf
      exact ret_i F hr hk Z dX5_run_191
    have hf := if_f c116 hf
    refine lv_iload hx hb dX5_run_119 (lv_at hl 2 rfl) ?_
    refine lv_iconst (v := 2) hx hb dX5_run_121 (by decide) ?_
    refine lv_icmp_ne (tgt := 136) hx hb dX5_run_122 (by decide) (fun c122 => ?_) (fun c122 => ?_)
    · have hf := if_f c122 hf
      refine lv_iload hx hb dX5_run_136 (lv_at hl 2 rfl) ?_
      refine lv_iconst (v := 1) hx hb dX5_run_138 (by decide) ?_
      refine lv_icmp_ne (tgt := 151) hx hb dX5_run_139 (by decide) (fun c139 => ?_) (fun c139 => ?_)
      · have hf := if_f c139 hf
        refine lv_aload_n hx hb dX5_run_151 rfl (lv_at hl 0 rfl) ?_
        refine lv_iload hx hb dX5_run_152 (lv_at hl 1 rfl) ?_
        obtain ⟨q154, h154, hf⟩ := bind_some hf
        refine krX5_90_X5_goOnFailed F K E hA Z h154 ⟨Nat.le_of_ble_eq_true rfl, Nat.le_of_ble_eq_true rfl⟩ hl.1 (Nat.le_of_ble_eq_true rfl) dX5_run_154 (fun H locs Z => ?_)
        refine lv_istore (lv' := [(6, .int q154.1), (0, .ref (ad 23)), (5, .int x5), (7, .int x7)]) hx hb dX5_run_157 hl (by decide) rfl (fun ls hl => ?_)
        exact b_X5_run_1_159 F hr hk K E hA ih _ _ _ _ hf _ _ _ Z (lv_sub hl [1, 2, 0, 3] rfl)
      have hf := if_t c139 hf
      refine lv_aload_n hx hb dX5_run_142 rfl (lv_at hl 0 rfl) ?_
      refine lv_iload hx hb dX5_run_143 (lv_at hl 1 rfl) ?_
      obtain ⟨q145, h145, hf⟩ := bind_some hf
      refine krX5_87_X5_goOnProved F K E hA Z h145 ⟨Nat.le_of_ble_eq_true rfl, Nat.le_of_ble_eq_true rfl⟩ hl.1 (Nat.le_of_ble_eq_true rfl) dX5_run_145 (fun H locs Z => ?_)
      refine lv_goto (tgt := 157) hx hb dX5_run_148 (by decide) ?_
      refine lv_istore (lv' := [(6, .int q145.1), (0, .ref (ad 23)), (5, .int x5), (7, .int x7)]) hx hb dX5_run_157 hl (by decide) rfl (fun ls hl => ?_)
      exact b_X5_run_1_159 F hr hk K E hA ih _ _ _ _ hf _ _ _ Z (lv_sub hl [1, 2, 0, 3] rfl)
    have hf := if_t c122 hf
    refine lv_aload_n hx hb dX5_run_125 rfl (lv_at hl 0 rfl) ?_
    refine lv_iload hx hb dX5_run_126 (lv_at hl 1 rfl) ?_
    obtain ⟨q128, h128, hf⟩ := bind_some hf
    refine krX5_85_X5_begin F K E hA Z h128 ⟨Nat.le_of_ble_eq_true rfl, Nat.le_of_ble_eq_true rfl⟩ hl.1 (Nat.le_of_ble_eq_true rfl) dX5_run_128 (fun H locs Z => ?_)
    refine lv_istore (lv' := [(6, .int q128.1), (0, .ref (ad 23)), (5, .int x5), (7, .int x7)]) hx hb dX5_run_131 hl (by decide) rfl (fun ls hl => ?_)
    refine lv_goto (tgt := 159) hx hb dX5_run_133 (by decide) ?_
    exact b_X5_run_1_159 F hr hk K E hA ih _ _ _ _ hf _ _ _ Z (lv_sub hl [1, 2, 0, 3] rfl)
set_option maxRecDepth 100000 in
set_option maxHeartbeats 4000000 in
theorem b_X5_run_1_51 {p : Program} {l : Launch} {e : Env} {s : State} {m : MethodId} {args : Array Value} {below : List Frame} {meth : Method} {c : Code} {D : va_G} {A : Nat → Prop} {ad : Nat → Nat} {cy : Nat → ClassId} {ee : EE} {n : Nat} {res : (Int32 × StT)} (F : CallFix p m c cX5_run 8 s args (Cond.code yX5_run cX5_run 8 (some .int) :: Gw) yX5_run.cls) (hr : meth.sig.returnType = (some .int)) (hk : meth.locks = false) (K : va_K D vwCl (tyL cy) s) (E : EV ee A s s.heap) (hA : ∀ q, s.heap.size ≤ q → A q) : ∀ (k : Nat) (st : StT) (x2 : Int32) (x5 : Int32), f_X5_run_1_51 n k st x2 x5 = some res → ∀ (H : Heap) (locs : List Loc) (ls : Array Slot), ZG D (wC ad cy st) A s H locs → lv_has ls 8 [(0, .ref (ad 23)), (1, .ref (ad 1)), (2, .int x2), (5, .int x5)] → W p l e { frames := 7, cells := 0, slots := 0, locals := 174 } s m args below meth c H locs 0 0 (MQ below (QC D (some (.int res.1)) (wC ad cy res.2) A) args s 0 0 A) (F0 m 51 ls []) := by
  have hx := F.1
  have hb := F.2.1
  intro k
  induction k with
  | zero =>
    intro st x2 x5 hf
    exact absurd hf (by simp [f_X5_run_1_51])
  | succ k ih =>
    intro st x2 x5 hf H locs ls Z hl
    rw [f_X5_run_1_51] at hf
    refine lv_iload hx hb dX5_run_51 (lv_at hl 3 rfl) ?_
    refine lv_iload_n hx hb dX5_run_53 rfl (lv_at hl 2 rfl) ?_
    refine lv_icmp_ge (tgt := 92) hx hb dX5_run_54 (by decide) (fun c54 => ?_) (fun c54 => ?_)
    · have hf := if_t c54 hf
      refine lv_iconst (v := 0) hx hb dX5_run_92 (by decide) ?_
      refine lv_istore (lv' := [(5, .int (0 : Int32)), (0, .ref (ad 23)), (1, .ref (ad 1)), (2, .int x2)]) hx hb dX5_run_93 hl (by decide) rfl (fun ls hl => ?_)
      refine lv_iconst (v := 2) hx hb dX5_run_95 (by decide) ?_
      refine lv_istore (lv' := [(6, .int (2 : Int32)), (5, .int (0 : Int32)), (0, .ref (ad 23)), (1, .ref (ad 1)), (2, .int x2)]) hx hb dX5_run_96 hl (by decide) rfl (fun ls hl => ?_)
      refine lv_iconst (v := 0) hx hb dX5_run_98 (by decide) ?_
      refine lv_istore (lv' := [(7, .int (0 : Int32)), (6, .int (2 : Int32)), (5, .int (0 : Int32)), (0, .ref (ad 23)), (1, .ref (ad 1)), (2, .int x2)]) hx hb dX5_run_99 hl (by decide) rfl (fun ls hl => ?_)
      exact b_X5_run_1_101 F hr hk K E hA _ _ _ _ _ hf _ _ _ Z (lv_sub hl [3, 2, 1, 0] rfl)
    have hf := if_f c54 hf
    refine lv_iload hx hb dX5_run_57 (lv_at hl 3 rfl) ?_
    refine lv_aload_n hx hb dX5_run_59 rfl (lv_at hl 1 rfl) ?_
    refine an1 F K Z dX5_run_60 ?_
    refine lv_icmp_ge (tgt := 92) hx hb dX5_run_61 (by decide) (fun c61 => ?_) (fun c61 => ?_)
    · have hf := if_t c61 hf
      refine lv_iconst (v := 0) hx hb dX5_run_92 (by decide) ?_
      refine lv_istore (lv' := [(5, .int (0 : Int32)), (0, .ref (ad 23)), (1, .ref (ad 1)), (2, .int x2)]) hx hb dX5_run_93 hl (by decide) rfl (fun ls hl => ?_)
      refine lv_iconst (v := 2) hx hb dX5_run_95 (by decide) ?_
      refine lv_istore (lv' := [(6, .int (2 : Int32)), (5, .int (0 : Int32)), (0, .ref (ad 23)), (1, .ref (ad 1)), (2, .int x2)]) hx hb dX5_run_96 hl (by decide) rfl (fun ls hl => ?_)
      refine lv_iconst (v := 0) hx hb dX5_run_98 (by decide) ?_
      refine lv_istore (lv' := [(7, .int (0 : Int32)), (6, .int (2 : Int32)), (5, .int (0 : Int32)), (0, .ref (ad 23)), (1, .ref (ad 1)), (2, .int x2)]) hx hb dX5_run_99 hl (by decide) rfl (fun ls hl => ?_)
      exact b_X5_run_1_101 F hr hk K E hA _ _ _ _ _ hf _ _ _ Z (lv_sub hl [3, 2, 1, 0] rfl)
    have hf := if_f c61 hf
    refine lv_aload_n hx hb dX5_run_64 rfl (lv_at hl 0 rfl) ?_
    refine grX5_23_23 F K Z dX5_run_65 ?_
    refine lv_iconst (v := 0) hx hb dX5_run_68 (by decide) ?_
    refine lv_aload_n hx hb dX5_run_69 rfl (lv_at hl 1 rfl) ?_
    refine lv_iload hx hb dX5_run_70 (lv_at hl 3 rfl) ?_
    obtain ⟨i72, hf⟩ := if_some hf
    refine al1 F K Z i72 dX5_run_72 ?_
    refine lv_aload_n hx hb dX5_run_73 rfl (lv_at hl 0 rfl) ?_
    refine grX5_16_23 F K Z dX5_run_74 ?_
    refine lv_iload hx hb dX5_run_77 (lv_at hl 3 rfl) ?_
    obtain ⟨q79, h79, hf⟩ := bind_some hf
    refine krX5_77_X7_hypothesis_T1 F K E hA Z h79 ⟨Nat.le_of_ble_eq_true rfl, Nat.le_of_ble_eq_true rfl⟩ hl.1 (Nat.le_of_ble_eq_true rfl) dX5_run_79 (fun H locs Z => ?_)
    obtain ⟨q82, h82, hf⟩ := bind_some hf
    refine krX5_81_X6_comes F K E hA Z h82 ⟨Nat.le_of_ble_eq_true rfl, Nat.le_of_ble_eq_true rfl⟩ hl.1 (Nat.le_of_ble_eq_true rfl) dX5_run_82 (fun H locs Z => ?_)
    refine lv_pop hx hb dX5_run_85 rfl ?_
    refine lv_iinc (v := (x5 + (1 : Int32))) (lv' := [(5, .int (x5 + (1 : Int32))), (0, .ref (ad 23)), (1, .ref (ad 1)), (2, .int x2)]) hx hb dX5_run_86 hl (k := 3) rfl (congrArg (fun z => x5 + z) (by decide)) (by decide) rfl (fun ls hl => ?_)
    refine lv_goto (tgt := 51) hx hb dX5_run_89 (by decide) ?_
    exact ih _ _ _ hf _ _ _ Z (lv_sub hl [1, 2, 3, 0] rfl)
set_option maxRecDepth 100000 in
set_option maxHeartbeats 4000000 in
theorem c_X5_run_1 {l : Launch} {D : va_G} {ad : Nat → Nat} {cy : Nat → ClassId} {ee : EE} {n : Nat} {st : StT} {x2 : Int32} {x3 : Int32} {x4 : Int32} {res : (Int32 × StT)} (hf : f_X5_run_1 n st x2 x3 x4 = some res) : CT l yX5_run cX5_run 8 (some .int) 7 174 D cy ee (wC ad cy st) (wC ad cy res.2) [.ref (ad 23), .ref (ad 1), .int x2, .int x3, .int x4] (some (.int res.1)) := by
  refine CT.of (by decide +kernel) (Nat.le_of_ble_eq_true rfl) ?_
  intro p e s m args below meth c A F hr hk K E hA Z ls hl
  have hl : lv_has ls 8 [(0, .ref (ad 23)), (1, .ref (ad 1)), (2, .int x2), (3, .int x3), (4, .int x4)] := hl
  have hx := F.1
  have hb := F.2.1
  unfold f_X5_run_1 at hf
  refine lv_aload_n hx hb dX5_run_0 rfl (lv_at hl 0 rfl) ?_
  refine lv_iload hx hb dX5_run_1 (lv_at hl 4 rfl) ?_
  refine prX5_58_23 F K Z dX5_run_3 (fun H locs Z => ?_)
  refine lv_aload_n hx hb dX5_run_6 rfl (lv_at hl 0 rfl) ?_
  refine lv_iconst (v := 0) hx hb dX5_run_7 (by decide) ?_
  refine prX5_61_23 F K Z dX5_run_8 (fun H locs Z => ?_)
  refine lv_aload_n hx hb dX5_run_11 rfl (lv_at hl 0 rfl) ?_
  refine lv_iconst (v := 0) hx hb dX5_run_12 (by decide) ?_
  refine prX5_64_23 F K Z dX5_run_13 (fun H locs Z => ?_)
  refine lv_aload_n hx hb dX5_run_16 rfl (lv_at hl 0 rfl) ?_
  refine lv_iload_n hx hb dX5_run_17 rfl (lv_at hl 2 rfl) ?_
  refine prX5_67_23 F K Z dX5_run_18 (fun H locs Z => ?_)
  refine lv_aload_n hx hb dX5_run_21 rfl (lv_at hl 0 rfl) ?_
  refine lv_iconst (v := -1) hx hb dX5_run_22 (by decide) ?_
  refine prX5_51_23 F K Z dX5_run_23 (fun H locs Z => ?_)
  refine lv_aload_n hx hb dX5_run_26 rfl (lv_at hl 0 rfl) ?_
  refine grX5_16_23 F K Z dX5_run_27 ?_
  obtain ⟨q30, h30, hf⟩ := bind_some hf
  refine krX5_70_X7_drop_T1 F K E hA Z h30 ⟨Nat.le_of_ble_eq_true rfl, Nat.le_of_ble_eq_true rfl⟩ hl.1 (Nat.le_of_ble_eq_true rfl) dX5_run_30 (fun H locs Z => ?_)
  refine lv_aload_n hx hb dX5_run_33 rfl (lv_at hl 0 rfl) ?_
  refine grX5_30_23 F K Z dX5_run_34 ?_
  obtain ⟨q37, h37, hf⟩ := bind_some hf
  refine krX5_73_X4_drop F K E hA Z h37 ⟨Nat.le_of_ble_eq_true rfl, Nat.le_of_ble_eq_true rfl⟩ hl.1 (Nat.le_of_ble_eq_true rfl) dX5_run_37 (fun H locs Z => ?_)
  refine lv_aload_n hx hb dX5_run_40 rfl (lv_at hl 0 rfl) ?_
  refine grX5_23_23 F K Z dX5_run_41 ?_
  refine lv_iload_n hx hb dX5_run_44 rfl (lv_at hl 3 rfl) ?_
  obtain ⟨q45, h45, hf⟩ := bind_some hf
  refine krX5_74_X6_begin F K E hA Z h45 ⟨Nat.le_of_ble_eq_true rfl, Nat.le_of_ble_eq_true rfl⟩ hl.1 (Nat.le_of_ble_eq_true rfl) dX5_run_45 (fun H locs Z => ?_)
  refine lv_iconst (v := 0) hx hb dX5_run_48 (by decide) ?_
  refine lv_istore (lv' := [(5, .int (0 : Int32)), (0, .ref (ad 23)), (1, .ref (ad 1)), (2, .int x2), (3, .int x3), (4, .int x4)]) hx hb dX5_run_49 hl (by decide) rfl (fun ls hl => ?_)
  exact b_X5_run_1_51 F hr hk K E hA _ _ _ _ hf _ _ _ Z (lv_sub hl [1, 2, 3, 0] rfl)
