def f_X12_isFormula (n : Nat) (st : StT) (x1 : Int32) : Option (Int32 × StT) := if x1 < 0 then (some ((0 : Int32), st)) else (if (st.1 0) ≤ x1 then (some ((0 : Int32), st)) else (some ((1 : Int32), st)))
set_option maxRecDepth 100000 in
set_option maxHeartbeats 4000000 in
theorem c_X12_isFormula {l : Launch} {D : va_G} {ad : Nat → Nat} {cy : Nat → ClassId} {ee : EE} {n : Nat} {st : StT} {x1 : Int32} {res : (Int32 × StT)} (hf : f_X12_isFormula n st x1 = some res) : CT l yX12_isFormula cX12_isFormula 2 (some .boolean) 0 0 D cy ee (wM ad cy st) (wM ad cy res.2) [.ref (ad 0), .int x1] (some (.int res.1)) := by
  refine CT.of (by decide +kernel) (Nat.le_of_ble_eq_true rfl) ?_
  intro p e s m args below meth c A F hr hk K E hA Z ls hl
  have hl : lv_has ls 2 [(0, .ref (ad 0)), (1, .int x1)] := hl
  have hx := F.1
  have hb := F.2.1
  unfold f_X12_isFormula at hf
  refine lv_iload_n hx hb dX12_isFormula_0 rfl (lv_at hl 1 rfl) ?_
  refine lv_if_lt (tgt := 16) hx hb dX12_isFormula_1 (by decide) (fun c1 => ?_) (fun c1 => ?_)
  · have hf := if_t c1 hf
    refine lv_iconst (v := 0) hx hb dX12_isFormula_16 (by decide) ?_
    have hf := Option.some.inj hf
    subst hf
    exact ret_z F hr hk Z rfl dX12_isFormula_17
  have hf := if_f c1 hf
  refine lv_iload_n hx hb dX12_isFormula_4 rfl (lv_at hl 1 rfl) ?_
  refine lv_aload_n hx hb dX12_isFormula_5 rfl (lv_at hl 0 rfl) ?_
  refine gmX12_204 F K Z dX12_isFormula_6 ?_
  refine lv_icmp_ge (tgt := 16) hx hb dX12_isFormula_9 (by decide) (fun c9 => ?_) (fun c9 => ?_)
  · have hf := if_t c9 hf
    refine lv_iconst (v := 0) hx hb dX12_isFormula_16 (by decide) ?_
    have hf := Option.some.inj hf
    subst hf
    exact ret_z F hr hk Z rfl dX12_isFormula_17
  have hf := if_f c9 hf
  refine lv_iconst (v := 1) hx hb dX12_isFormula_12 (by decide) ?_
  refine lv_goto (tgt := 17) hx hb dX12_isFormula_13 (by decide) ?_
  have hf := Option.some.inj hf
  subst hf
  exact ret_z F hr hk Z rfl dX12_isFormula_17
def f_X12_need_32 (n : Nat) : Nat → StT → Int32 → Option StT
  | 0, _, _ => none
  | k + 1, st, x2 => if x2 ≤ (1 : Int32) then (some st) else (if inB x2 2000 = true then (if (st.2.1 55 (x2).toNatClampNeg) = 0 then (f_X12_need_32 n k st (x2 + (-1 : Int32))) else (if inB x2 4200 = true then (if (st.2.1 0 (x2).toNatClampNeg) < (3 : Int32) then (f_X12_need_32 n k st (x2 + (-1 : Int32))) else (if inB x2 4200 = true then (if inB (st.2.1 1 (x2).toNatClampNeg) 2000 = true then (if inB x2 4200 = true then (if inB ((uA st 55 (st.2.1 1 (x2).toNatClampNeg) (vp_nar .boolean (1 : Int32))).2.1 2 (x2).toNatClampNeg) 2000 = true then (f_X12_need_32 n k (uA (uA st 55 (st.2.1 1 (x2).toNatClampNeg) (vp_nar .boolean (1 : Int32))) 55 ((uA st 55 (st.2.1 1 (x2).toNatClampNeg) (vp_nar .boolean (1 : Int32))).2.1 2 (x2).toNatClampNeg) (vp_nar .boolean (1 : Int32))) (x2 + (-1 : Int32))) else none) else none) else none) else none)) else none)) else none)
def f_X12_need_2 (n : Nat) : Nat → StT → Int32 → Int32 → Option StT
  | 0, _, _, _ => none
  | k + 1, st, x1, x2 => if (st.1 0) ≤ x2 then (if inB x1 2000 = true then (f_X12_need_32 n n (uA st 55 x1 (vp_nar .boolean (1 : Int32))) x1) else none) else (if inB x2 2000 = true then (f_X12_need_2 n k (uA st 55 x2 (vp_nar .boolean (0 : Int32))) x1 (x2 + (1 : Int32))) else none)
def f_X12_need (n : Nat) (st : StT) (x1 : Int32) : Option StT := f_X12_need_2 n n st x1 (0 : Int32)
theorem wd1312 : Cond.fieldLink RX12 188 "WorldProverModel" "needed" "[Z" ∈ Gw := gT6 (List.mem_of_getElem? (i := 151) rfl) rfl
section
variable {p : Program} {l : Launch} {e : Env} {R : Room} {s : State} {m : MethodId} {args : Array Value} {below : List Frame} {meth : Method} {c : Code} {H : Heap} {locs : List Loc} {Q : State → Prop}
variable {cc : ByteArray} {nL pc : Nat} {ls : Array Slot} {rest : List Value} {D : va_G} {A : Nat → Prop} {cw : Cond} {ad : Nat → Nat} {cy : Nat → ClassId} {ee : EE} {st : StT} {own : String}
theorem gmX12_188 (F : CallFix p m c cc nL s args (cw :: Gw) RX12) (K : va_K D vwCl (tyL cy) s) (Z : ZG D (wM ad cy st) A s H locs) (hd : decode cc pc = .ok (.getfield 188, 3)) (kk : W p l e R s m args below meth c H locs 0 0 Q (F0 m (pc + 3) ls (.ref (ad 57) :: rest))) : W p l e R s m args below meth c H locs 0 0 Q (F0 m pc ls (.ref (ad 0) :: rest)) :=
  va_get (D := D) (ci := 12) (C := RX12) (T := TX12) (N := 98) F.1 F.2.1 F.2.2.2.2 (fun w h => List.mem_cons_of_mem _ (inG_X12 w h)) F.2.2.2.1 K Z.1 0 rfl rfl 93 (by decide) (F.2.2.2.2 _ (List.mem_cons_of_mem _ wd1312)) (fun _ h => h) rfl hd kk
theorem ms57 {i : Int32} {v : Int32} (F : CallFix p m c cc nL s args (cw :: Gw) own) (K : va_K D vwCl (tyL cy) s) (Z : ZG D (wM ad cy st) A s H locs) (hi : inB i 2000 = true) (hd : decode cc pc = .ok (.bastore, 1)) (kk : ∀ (H1 : Heap) (locs1 : List Loc), ZG D (wM ad cy (uA st 55 i (vp_nar .boolean v))) A s H1 locs1 → W p l e R s m args below meth c H1 locs1 0 0 Q (F0 m (pc + 1) ls rest)) : W p l e R s m args below meth c H locs 0 0 Q (F0 m pc ls (.int v :: .int i :: .ref (ad 57) :: rest)) :=
  va_zast F.1 F.2.1 K Z.1 Z.2.1 Z.2.2 57 3 rfl rfl (inB_vp hi) hd (fun H1 locs1 hP hD hS => kk H1 locs1 ⟨hP, hD, hS⟩)
theorem ml57 {i : Int32} (F : CallFix p m c cc nL s args (cw :: Gw) own) (K : va_K D vwCl (tyL cy) s) (Z : ZG D (wM ad cy st) A s H locs) (hi : inB i 2000 = true) (hd : decode cc pc = .ok (.baload, 1)) (kk : W p l e R s m args below meth c H locs 0 0 Q (F0 m (pc + 1) ls (.int (st.2.1 55 i.toNatClampNeg) :: rest))) : W p l e R s m args below meth c H locs 0 0 Q (F0 m pc ls (.int i :: .ref (ad 57) :: rest)) :=
  va_zald F.1 F.2.1 K Z.1 57 3 rfl rfl (inB_vp hi) hd kk
end
set_option maxRecDepth 100000 in
set_option maxHeartbeats 4000000 in
theorem b_X12_need_32 {p : Program} {l : Launch} {e : Env} {s : State} {m : MethodId} {args : Array Value} {below : List Frame} {meth : Method} {c : Code} {D : va_G} {A : Nat → Prop} {ad : Nat → Nat} {cy : Nat → ClassId} {ee : EE} {n : Nat} {res : StT} (F : CallFix p m c cX12_need 3 s args (Cond.code yX12_need cX12_need 3 none :: Gw) yX12_need.cls) (hr : meth.sig.returnType = none) (hk : meth.locks = false) (K : va_K D vwCl (tyL cy) s) (E : EV ee A s s.heap) (hA : ∀ q, s.heap.size ≤ q → A q) : ∀ (k : Nat) (st : StT) (x2 : Int32), f_X12_need_32 n k st x2 = some res → ∀ (H : Heap) (locs : List Loc) (ls : Array Slot), ZG D (wM ad cy st) A s H locs → lv_has ls 3 [(0, .ref (ad 0)), (2, .int x2)] → W p l e { frames := 0, cells := 0, slots := 0, locals := 0 } s m args below meth c H locs 0 0 (MQ below (QC D (none) (wM ad cy res) A) args s 0 0 A) (F0 m 32 ls []) := by
  have hx := F.1
  have hb := F.2.1
  intro k
  induction k with
  | zero =>
    intro st x2 hf
    exact absurd hf (by simp [f_X12_need_32])
  | succ k ih =>
    intro st x2 hf H locs ls Z hl
    rw [f_X12_need_32] at hf
    refine lv_iload_n hx hb dX12_need_32 rfl (lv_at hl 1 rfl) ?_
    refine lv_iconst (v := 1) hx hb dX12_need_33 (by decide) ?_
    refine lv_icmp_le (tgt := 86) hx hb dX12_need_34 (by decide) (fun c34 => ?_) (fun c34 => ?_)
    · have hf := if_t c34 hf
      have hf := Option.some.inj hf
      subst hf
      exact ret_v F hr hk Z dX12_need_86
    have hf := if_f c34 hf
    refine lv_aload_n hx hb dX12_need_37 rfl (lv_at hl 0 rfl) ?_
    refine gmX12_188 F K Z dX12_need_38 ?_
    refine lv_iload_n hx hb dX12_need_41 rfl (lv_at hl 1 rfl) ?_
    obtain ⟨i42, hf⟩ := if_some hf
    refine ml57 F K Z i42 dX12_need_42 ?_
    refine lv_if_eq (tgt := 80) hx hb dX12_need_43 (by decide) (fun c43 => ?_) (fun c43 => ?_)
    · have hf := if_t c43 hf
      refine lv_iinc (v := (x2 + (-1 : Int32))) (lv' := [(2, .int (x2 + (-1 : Int32))), (0, .ref (ad 0))]) hx hb dX12_need_80 hl (k := 1) rfl (congrArg (fun z => x2 + z) (by decide)) (by decide) rfl (fun ls hl => ?_)
      refine lv_goto (tgt := 32) hx hb dX12_need_83 (by decide) ?_
      exact ih _ _ hf _ _ _ Z (lv_sub hl [1, 0] rfl)
    have hf := if_f c43 hf
    refine lv_aload_n hx hb dX12_need_46 rfl (lv_at hl 0 rfl) ?_
    refine gmX12_7 F K Z dX12_need_47 ?_
    refine lv_iload_n hx hb dX12_need_50 rfl (lv_at hl 1 rfl) ?_
    obtain ⟨i51, hf⟩ := if_some hf
    refine ml1 F K Z i51 dX12_need_51 ?_
    refine lv_iconst (v := 3) hx hb dX12_need_52 (by decide) ?_
    refine lv_icmp_lt (tgt := 80) hx hb dX12_need_53 (by decide) (fun c53 => ?_) (fun c53 => ?_)
    · have hf := if_t c53 hf
      refine lv_iinc (v := (x2 + (-1 : Int32))) (lv' := [(2, .int (x2 + (-1 : Int32))), (0, .ref (ad 0))]) hx hb dX12_need_80 hl (k := 1) rfl (congrArg (fun z => x2 + z) (by decide)) (by decide) rfl (fun ls hl => ?_)
      refine lv_goto (tgt := 32) hx hb dX12_need_83 (by decide) ?_
      exact ih _ _ hf _ _ _ Z (lv_sub hl [1, 0] rfl)
    have hf := if_f c53 hf
    refine lv_aload_n hx hb dX12_need_56 rfl (lv_at hl 0 rfl) ?_
    refine gmX12_188 F K Z dX12_need_57 ?_
    refine lv_aload_n hx hb dX12_need_60 rfl (lv_at hl 0 rfl) ?_
    refine gmX12_13 F K Z dX12_need_61 ?_
    refine lv_iload_n hx hb dX12_need_64 rfl (lv_at hl 1 rfl) ?_
    obtain ⟨i65, hf⟩ := if_some hf
    refine ml2 F K Z i65 dX12_need_65 ?_
    refine lv_iconst (v := 1) hx hb dX12_need_66 (by decide) ?_
    obtain ⟨i67, hf⟩ := if_some hf
    refine ms57 F K Z i67 dX12_need_67 (fun H locs Z => ?_)
    refine lv_aload_n hx hb dX12_need_68 rfl (lv_at hl 0 rfl) ?_
    refine gmX12_188 F K Z dX12_need_69 ?_
    refine lv_aload_n hx hb dX12_need_72 rfl (lv_at hl 0 rfl) ?_
    refine gmX12_16 F K Z dX12_need_73 ?_
    refine lv_iload_n hx hb dX12_need_76 rfl (lv_at hl 1 rfl) ?_
    obtain ⟨i77, hf⟩ := if_some hf
    refine ml3 F K Z i77 dX12_need_77 ?_
    refine lv_iconst (v := 1) hx hb dX12_need_78 (by decide) ?_
    obtain ⟨i79, hf⟩ := if_some hf
    refine ms57 F K Z i79 dX12_need_79 (fun H locs Z => ?_)
    refine lv_iinc (v := (x2 + (-1 : Int32))) (lv' := [(2, .int (x2 + (-1 : Int32))), (0, .ref (ad 0))]) hx hb dX12_need_80 hl (k := 1) rfl (congrArg (fun z => x2 + z) (by decide)) (by decide) rfl (fun ls hl => ?_)
    refine lv_goto (tgt := 32) hx hb dX12_need_83 (by decide) ?_
    exact ih _ _ hf _ _ _ Z (lv_sub hl [1, 0] rfl)
set_option maxRecDepth 100000 in
set_option maxHeartbeats 4000000 in
theorem b_X12_need_2 {p : Program} {l : Launch} {e : Env} {s : State} {m : MethodId} {args : Array Value} {below : List Frame} {meth : Method} {c : Code} {D : va_G} {A : Nat → Prop} {ad : Nat → Nat} {cy : Nat → ClassId} {ee : EE} {n : Nat} {res : StT} (F : CallFix p m c cX12_need 3 s args (Cond.code yX12_need cX12_need 3 none :: Gw) yX12_need.cls) (hr : meth.sig.returnType = none) (hk : meth.locks = false) (K : va_K D vwCl (tyL cy) s) (E : EV ee A s s.heap) (hA : ∀ q, s.heap.size ≤ q → A q) : ∀ (k : Nat) (st : StT) (x1 : Int32) (x2 : Int32), f_X12_need_2 n k st x1 x2 = some res → ∀ (H : Heap) (locs : List Loc) (ls : Array Slot), ZG D (wM ad cy st) A s H locs → lv_has ls 3 [(0, .ref (ad 0)), (1, .int x1), (2, .int x2)] → W p l e { frames := 0, cells := 0, slots := 0, locals := 0 } s m args below meth c H locs 0 0 (MQ below (QC D (none) (wM ad cy res) A) args s 0 0 A) (F0 m 2 ls []) := by
  have hx := F.1
  have hb := F.2.1
  intro k
  induction k with
  | zero =>
    intro st x1 x2 hf
    exact absurd hf (by simp [f_X12_need_2])
  | succ k ih =>
    intro st x1 x2 hf H locs ls Z hl
    rw [f_X12_need_2] at hf
    refine lv_iload_n hx hb dX12_need_2 rfl (lv_at hl 2 rfl) ?_
    refine lv_aload_n hx hb dX12_need_3 rfl (lv_at hl 0 rfl) ?_
    refine gmX12_204 F K Z dX12_need_4 ?_
    refine lv_icmp_ge (tgt := 23) hx hb dX12_need_7 (by decide) (fun c7 => ?_) (fun c7 => ?_)
    · have hf := if_t c7 hf
      refine lv_aload_n hx hb dX12_need_23 rfl (lv_at hl 0 rfl) ?_
      refine gmX12_188 F K Z dX12_need_24 ?_
      refine lv_iload_n hx hb dX12_need_27 rfl (lv_at hl 1 rfl) ?_
      refine lv_iconst (v := 1) hx hb dX12_need_28 (by decide) ?_
      obtain ⟨i29, hf⟩ := if_some hf
      refine ms57 F K Z i29 dX12_need_29 (fun H locs Z => ?_)
      refine lv_iload_n hx hb dX12_need_30 rfl (lv_at hl 1 rfl) ?_
      refine lv_istore_n (lv' := [(2, .int x1), (0, .ref (ad 0)), (1, .int x1)]) hx hb dX12_need_31 rfl hl (by decide) rfl (fun ls hl => ?_)
      exact b_X12_need_32 F hr hk K E hA _ _ _ hf _ _ _ Z (lv_sub hl [1, 0] rfl)
    have hf := if_f c7 hf
    refine lv_aload_n hx hb dX12_need_10 rfl (lv_at hl 0 rfl) ?_
    refine gmX12_188 F K Z dX12_need_11 ?_
    refine lv_iload_n hx hb dX12_need_14 rfl (lv_at hl 2 rfl) ?_
    refine lv_iconst (v := 0) hx hb dX12_need_15 (by decide) ?_
    obtain ⟨i16, hf⟩ := if_some hf
    refine ms57 F K Z i16 dX12_need_16 (fun H locs Z => ?_)
    refine lv_iinc (v := (x2 + (1 : Int32))) (lv' := [(2, .int (x2 + (1 : Int32))), (0, .ref (ad 0)), (1, .int x1)]) hx hb dX12_need_17 hl (k := 2) rfl (congrArg (fun z => x2 + z) (by decide)) (by decide) rfl (fun ls hl => ?_)
    refine lv_goto (tgt := 2) hx hb dX12_need_20 (by decide) ?_
    exact ih _ _ _ hf _ _ _ Z (lv_sub hl [1, 2, 0] rfl)
set_option maxRecDepth 100000 in
set_option maxHeartbeats 4000000 in
theorem c_X12_need {l : Launch} {D : va_G} {ad : Nat → Nat} {cy : Nat → ClassId} {ee : EE} {n : Nat} {st : StT} {x1 : Int32} {res : StT} (hf : f_X12_need n st x1 = some res) : CT l yX12_need cX12_need 3 none 0 0 D cy ee (wM ad cy st) (wM ad cy res) [.ref (ad 0), .int x1] (none) := by
  refine CT.of (by decide +kernel) (Nat.le_of_ble_eq_true rfl) ?_
  intro p e s m args below meth c A F hr hk K E hA Z ls hl
  have hl : lv_has ls 3 [(0, .ref (ad 0)), (1, .int x1)] := hl
  have hx := F.1
  have hb := F.2.1
  unfold f_X12_need at hf
  refine lv_iconst (v := 0) hx hb dX12_need_0 (by decide) ?_
  refine lv_istore_n (lv' := [(2, .int (0 : Int32)), (0, .ref (ad 0)), (1, .int x1)]) hx hb dX12_need_1 rfl hl (by decide) rfl (fun ls hl => ?_)
  exact b_X12_need_2 F hr hk K E hA _ _ _ _ hf _ _ _ Z (lv_sub hl [1, 2, 0] rfl)
def f_X12_leadsIn_77 (n : Nat) (k14 : StT → Int64 → Int64 → Int64 → Int64 → Int32 → Option (Int64 × StT)) (st : StT) (x1 : Int64) (x3 : Int64) (x5 : Int64) (x7 : Int64) (x9 : Int32) : Option (Int64 × StT) := if x9 ≤ 0 then (k14 st x1 x3 x5 x7 (x9 + (-1 : Int32))) else (if inB x9 60 = true then (k14 st x1 x3 x5 (x7 ||| ((1 : Int64) <<< ((st.2.1 53 (x9).toNatClampNeg).toInt64 &&& 63))) (x9 + (-1 : Int32))) else none)
def f_X12_leadsIn_46 (n : Nat) (k14 : StT → Int64 → Int64 → Int64 → Int64 → Int32 → Option (Int64 × StT)) (st : StT) (x1 : Int64) (x3 : Int64) (x5 : Int64) (x7 : Int64) (x9 : Int32) (y0 : Int32) : Option (Int64 × StT) := if y0 = 0 then (f_X12_leadsIn_77 n k14 st x1 x3 x5 x7 x9) else (if (lg_cmp ((x7 >>> (x9.toInt64 &&& 63)) &&& (1 : Int64)) (0 : Int64)) = 0 then (k14 st x1 x3 (x5 ||| ((1 : Int64) <<< (x9.toInt64 &&& 63))) x7 (x9 + (-1 : Int32))) else (f_X12_leadsIn_77 n k14 st x1 x3 x5 x7 x9))
def f_X12_leadsIn_14 (n : Nat) : Nat → StT → Int64 → Int64 → Int64 → Int64 → Int32 → Option (Int64 × StT)
  | 0, _, _, _, _, _, _ => none
  | k + 1, st, x1, x3, x5, x7, x9 => if x9 < 0 then (some (x5, st)) else (if (lg_cmp ((x1 >>> (x9.toInt64 &&& 63)) &&& (1 : Int64)) (0 : Int64)) = 0 then (f_X12_leadsIn_46 n (f_X12_leadsIn_14 n k) st x1 x3 x5 x7 x9 (1 : Int32)) else (if (lg_cmp ((x3 >>> (x9.toInt64 &&& 63)) &&& (1 : Int64)) (1 : Int64)) = 0 then (f_X12_leadsIn_46 n (f_X12_leadsIn_14 n k) st x1 x3 x5 x7 x9 (1 : Int32)) else (f_X12_leadsIn_46 n (f_X12_leadsIn_14 n k) st x1 x3 x5 x7 x9 (0 : Int32))))
def f_X12_leadsIn (n : Nat) (st : StT) (x1 : Int64) (x3 : Int64) : Option (Int64 × StT) := f_X12_leadsIn_14 n n st x1 x3 (0 : Int64) (0 : Int64) ((st.1 36) - (1 : Int32))
theorem wd1313 : Cond.fieldLink RX12 207 "WorldProverModel" "worlds" "I" ∈ Gw := gT6 (List.mem_of_getElem? (i := 149) rfl) rfl
theorem wd1314 : Cond.fieldLink RX12 178 "WorldProverModel" "parent" "[I" ∈ Gw := gT6 (List.mem_of_getElem? (i := 147) rfl) rfl
section
variable {p : Program} {l : Launch} {e : Env} {R : Room} {s : State} {m : MethodId} {args : Array Value} {below : List Frame} {meth : Method} {c : Code} {H : Heap} {locs : List Loc} {Q : State → Prop}
variable {cc : ByteArray} {nL pc : Nat} {ls : Array Slot} {rest : List Value} {D : va_G} {A : Nat → Prop} {cw : Cond} {ad : Nat → Nat} {cy : Nat → ClassId} {ee : EE} {st : StT} {own : String}
theorem gmX12_207 (F : CallFix p m c cc nL s args (cw :: Gw) RX12) (K : va_K D vwCl (tyL cy) s) (Z : ZG D (wM ad cy st) A s H locs) (hd : decode cc pc = .ok (.getfield 207, 3)) (kk : W p l e R s m args below meth c H locs 0 0 Q (F0 m (pc + 3) ls (.int (st.1 36) :: rest))) : W p l e R s m args below meth c H locs 0 0 Q (F0 m pc ls (.ref (ad 0) :: rest)) :=
  va_get (D := D) (ci := 12) (C := RX12) (T := TX12) (N := 98) F.1 F.2.1 F.2.2.2.2 (fun w h => List.mem_cons_of_mem _ (inG_X12 w h)) F.2.2.2.1 K Z.1 0 rfl rfl 91 (by decide) (F.2.2.2.2 _ (List.mem_cons_of_mem _ wd1313)) (fun _ h => h) rfl hd kk
theorem gmX12_178 (F : CallFix p m c cc nL s args (cw :: Gw) RX12) (K : va_K D vwCl (tyL cy) s) (Z : ZG D (wM ad cy st) A s H locs) (hd : decode cc pc = .ok (.getfield 178, 3)) (kk : W p l e R s m args below meth c H locs 0 0 Q (F0 m (pc + 3) ls (.ref (ad 54) :: rest))) : W p l e R s m args below meth c H locs 0 0 Q (F0 m pc ls (.ref (ad 0) :: rest)) :=
  va_get (D := D) (ci := 12) (C := RX12) (T := TX12) (N := 98) F.1 F.2.1 F.2.2.2.2 (fun w h => List.mem_cons_of_mem _ (inG_X12 w h)) F.2.2.2.1 K Z.1 0 rfl rfl 89 (by decide) (F.2.2.2.2 _ (List.mem_cons_of_mem _ wd1314)) (fun _ h => h) rfl hd kk
theorem ml54 {i : Int32} (F : CallFix p m c cc nL s args (cw :: Gw) own) (K : va_K D vwCl (tyL cy) s) (Z : ZG D (wM ad cy st) A s H locs) (hi : inB i 60 = true) (hd : decode cc pc = .ok (.iaload, 1)) (kk : W p l e R s m args below meth c H locs 0 0 Q (F0 m (pc + 1) ls (.int (st.2.1 53 i.toNatClampNeg) :: rest))) : W p l e R s m args below meth c H locs 0 0 Q (F0 m pc ls (.int i :: .ref (ad 54) :: rest)) :=
  va_iald F.1 F.2.1 K Z.1 54 1 rfl rfl (inB_vp hi) hd kk
end
set_option maxRecDepth 100000 in
set_option maxHeartbeats 4000000 in
theorem b_X12_leadsIn_77 {p : Program} {l : Launch} {e : Env} {s : State} {m : MethodId} {args : Array Value} {below : List Frame} {meth : Method} {c : Code} {D : va_G} {A : Nat → Prop} {ad : Nat → Nat} {cy : Nat → ClassId} {ee : EE} {n : Nat} {res : (Int64 × StT)} (F : CallFix p m c cX12_leadsIn 11 s args (Cond.code yX12_leadsIn cX12_leadsIn 11 (some .long) :: Gw) yX12_leadsIn.cls) (hr : meth.sig.returnType = (some .long)) (hk : meth.locks = false) (K : va_K D vwCl (tyL cy) s) (E : EV ee A s s.heap) (hA : ∀ q, s.heap.size ≤ q → A q) {k14 : StT → Int64 → Int64 → Int64 → Int64 → Int32 → Option (Int64 × StT)} (hk14 : ∀ (st : StT) (x1 : Int64) (x3 : Int64) (x5 : Int64) (x7 : Int64) (x9 : Int32), k14 st x1 x3 x5 x7 x9 = some res → ∀ (H : Heap) (locs : List Loc) (ls : Array Slot), ZG D (wM ad cy st) A s H locs → lv_has ls 11 [(0, .ref (ad 0)), (1, .long x1), (3, .long x3), (5, .long x5), (7, .long x7), (9, .int x9)] → W p l e { frames := 0, cells := 0, slots := 0, locals := 0 } s m args below meth c H locs 0 0 (MQ below (QC D (some (.long res.1)) (wM ad cy res.2) A) args s 0 0 A) (F0 m 14 ls [])) : ∀ (st : StT) (x1 : Int64) (x3 : Int64) (x5 : Int64) (x7 : Int64) (x9 : Int32), f_X12_leadsIn_77 n k14 st x1 x3 x5 x7 x9 = some res → ∀ (H : Heap) (locs : List Loc) (ls : Array Slot), ZG D (wM ad cy st) A s H locs → lv_has ls 11 [(0, .ref (ad 0)), (1, .long x1), (3, .long x3), (5, .long x5), (7, .long x7), (9, .int x9)] → W p l e { frames := 0, cells := 0, slots := 0, locals := 0 } s m args below meth c H locs 0 0 (MQ below (QC D (some (.long res.1)) (wM ad cy res.2) A) args s 0 0 A) (F0 m 77 ls []) := by
  have hx := F.1
  have hb := F.2.1
  intro st x1 x3 x5 x7 x9 hf H locs ls Z hl
  unfold f_X12_leadsIn_77 at hf
  refine lv_iload hx hb dX12_leadsIn_77 (lv_at hl 5 rfl) ?_
  refine lv_if_le (tgt := 96) hx hb dX12_leadsIn_79 (by decide) (fun c79 => ?_) (fun c79 => ?_)
  · have hf := if_t c79 hf
    refine lv_iinc (v := (x9 + (-1 : Int32))) (lv' := [(9, .int (x9 + (-1 : Int32))), (0, .ref (ad 0)), (1, .long x1), (3, .long x3), (5, .long x5), (7, .long x7)]) hx hb dX12_leadsIn_96 hl (k := 5) rfl (congrArg (fun z => x9 + z) (by decide)) (by decide) rfl (fun ls hl => ?_)
    refine lv_goto (tgt := 14) hx hb dX12_leadsIn_99 (by decide) ?_
    exact hk14 _ _ _ _ _ _ hf _ _ _ Z (lv_sub hl [1, 2, 3, 4, 5, 0] rfl)
  have hf := if_f c79 hf
  refine lv_lload hx hb dX12_leadsIn_82 (lv_at hl 4 rfl) ?_
  refine lv_lconst (v := 1) hx hb dX12_leadsIn_84 (by decide) ?_
  refine lv_aload_n hx hb dX12_leadsIn_85 rfl (lv_at hl 0 rfl) ?_
  refine gmX12_178 F K Z dX12_leadsIn_86 ?_
  refine lv_iload hx hb dX12_leadsIn_89 (lv_at hl 5 rfl) ?_
  obtain ⟨i91, hf⟩ := if_some hf
  refine ml54 F K Z i91 dX12_leadsIn_91 ?_
  refine lv_lshl hx hb dX12_leadsIn_92 rfl ?_
  refine lv_lor hx hb dX12_leadsIn_93 ?_
  refine lv_lstore (lv' := [(7, .long (x7 ||| ((1 : Int64) <<< ((st.2.1 53 (x9).toNatClampNeg).toInt64 &&& 63)))), (0, .ref (ad 0)), (1, .long x1), (3, .long x3), (5, .long x5), (9, .int x9)]) hx hb dX12_leadsIn_94 hl (by decide) rfl (fun ls hl => ?_)
  refine lv_iinc (v := (x9 + (-1 : Int32))) (lv' := [(9, .int (x9 + (-1 : Int32))), (7, .long (x7 ||| ((1 : Int64) <<< ((st.2.1 53 (x9).toNatClampNeg).toInt64 &&& 63)))), (0, .ref (ad 0)), (1, .long x1), (3, .long x3), (5, .long x5)]) hx hb dX12_leadsIn_96 hl (k := 5) rfl (congrArg (fun z => x9 + z) (by decide)) (by decide) rfl (fun ls hl => ?_)
  refine lv_goto (tgt := 14) hx hb dX12_leadsIn_99 (by decide) ?_
  exact hk14 _ _ _ _ _ _ hf _ _ _ Z (lv_sub hl [2, 3, 4, 5, 1, 0] rfl)
set_option maxRecDepth 100000 in
set_option maxHeartbeats 4000000 in
theorem b_X12_leadsIn_46 {p : Program} {l : Launch} {e : Env} {s : State} {m : MethodId} {args : Array Value} {below : List Frame} {meth : Method} {c : Code} {D : va_G} {A : Nat → Prop} {ad : Nat → Nat} {cy : Nat → ClassId} {ee : EE} {n : Nat} {res : (Int64 × StT)} (F : CallFix p m c cX12_leadsIn 11 s args (Cond.code yX12_leadsIn cX12_leadsIn 11 (some .long) :: Gw) yX12_leadsIn.cls) (hr : meth.sig.returnType = (some .long)) (hk : meth.locks = false) (K : va_K D vwCl (tyL cy) s) (E : EV ee A s s.heap) (hA : ∀ q, s.heap.size ≤ q → A q) {k14 : StT → Int64 → Int64 → Int64 → Int64 → Int32 → Option (Int64 × StT)} (hk14 : ∀ (st : StT) (x1 : Int64) (x3 : Int64) (x5 : Int64) (x7 : Int64) (x9 : Int32), k14 st x1 x3 x5 x7 x9 = some res → ∀ (H : Heap) (locs : List Loc) (ls : Array Slot), ZG D (wM ad cy st) A s H locs → lv_has ls 11 [(0, .ref (ad 0)), (1, .long x1), (3, .long x3), (5, .long x5), (7, .long x7), (9, .int x9)] → W p l e { frames := 0, cells := 0, slots := 0, locals := 0 } s m args below meth c H locs 0 0 (MQ below (QC D (some (.long res.1)) (wM ad cy res.2) A) args s 0 0 A) (F0 m 14 ls [])) : ∀ (st : StT) (x1 : Int64) (x3 : Int64) (x5 : Int64) (x7 : Int64) (x9 : Int32) (y0 : Int32), f_X12_leadsIn_46 n k14 st x1 x3 x5 x7 x9 y0 = some res → ∀ (H : Heap) (locs : List Loc) (ls : Array Slot), ZG D (wM ad cy st) A s H locs → lv_has ls 11 [(0, .ref (ad 0)), (1, .long x1), (3, .long x3), (5, .long x5), (7, .long x7), (9, .int x9)] → W p l e { frames := 0, cells := 0, slots := 0, locals := 0 } s m args below meth c H locs 0 0 (MQ below (QC D (some (.long res.1)) (wM ad cy res.2) A) args s 0 0 A) (F0 m 46 ls [.int y0]) := by
  have hx := F.1
  have hb := F.2.1
  intro st x1 x3 x5 x7 x9 y0 hf H locs ls Z hl
  unfold f_X12_leadsIn_46 at hf
  refine lv_istore (lv' := [(10, .int y0), (0, .ref (ad 0)), (1, .long x1), (3, .long x3), (5, .long x5), (7, .long x7), (9, .int x9)]) hx hb dX12_leadsIn_46 hl (by decide) rfl (fun ls hl => ?_)
  refine lv_iload hx hb dX12_leadsIn_48 (lv_at hl 0 rfl) ?_
  refine lv_if_eq (tgt := 77) hx hb dX12_leadsIn_50 (by decide) (fun c50 => ?_) (fun c50 => ?_)
  · have hf := if_t c50 hf
    exact b_X12_leadsIn_77 F hr hk K E hA hk14 _ _ _ _ _ _ hf _ _ _ Z (lv_sub hl [1, 2, 3, 4, 5, 6] rfl)
  have hf := if_f c50 hf
  refine lv_lload hx hb dX12_leadsIn_53 (lv_at hl 5 rfl) ?_
  refine lv_iload hx hb dX12_leadsIn_55 (lv_at hl 6 rfl) ?_
  refine lv_lshr hx hb dX12_leadsIn_57 rfl ?_
  refine lv_lconst (v := 1) hx hb dX12_leadsIn_58 (by decide) ?_
  refine lv_land hx hb dX12_leadsIn_59 ?_
  refine lv_lconst (v := 0) hx hb dX12_leadsIn_60 (by decide) ?_
  refine W.lcmp hx hb dX12_leadsIn_61 ?_
  refine lv_if_ne (tgt := 77) hx hb dX12_leadsIn_62 (by decide) (fun c62 => ?_) (fun c62 => ?_)
  · have hf := if_f c62 hf
    exact b_X12_leadsIn_77 F hr hk K E hA hk14 _ _ _ _ _ _ hf _ _ _ Z (lv_sub hl [1, 2, 3, 4, 5, 6] rfl)
  have hf := if_t c62 hf
  refine lv_lload hx hb dX12_leadsIn_65 (lv_at hl 4 rfl) ?_
  refine lv_lconst (v := 1) hx hb dX12_leadsIn_67 (by decide) ?_
  refine lv_iload hx hb dX12_leadsIn_68 (lv_at hl 6 rfl) ?_
  refine lv_lshl hx hb dX12_leadsIn_70 rfl ?_
  refine lv_lor hx hb dX12_leadsIn_71 ?_
  refine lv_lstore (lv' := [(5, .long (x5 ||| ((1 : Int64) <<< (x9.toInt64 &&& 63)))), (10, .int y0), (0, .ref (ad 0)), (1, .long x1), (3, .long x3), (7, .long x7), (9, .int x9)]) hx hb dX12_leadsIn_72 hl (by decide) rfl (fun ls hl => ?_)
  refine lv_goto (tgt := 96) hx hb dX12_leadsIn_74 (by decide) ?_
  refine lv_iinc (v := (x9 + (-1 : Int32))) (lv' := [(9, .int (x9 + (-1 : Int32))), (5, .long (x5 ||| ((1 : Int64) <<< (x9.toInt64 &&& 63)))), (10, .int y0), (0, .ref (ad 0)), (1, .long x1), (3, .long x3), (7, .long x7)]) hx hb dX12_leadsIn_96 hl (k := 6) rfl (congrArg (fun z => x9 + z) (by decide)) (by decide) rfl (fun ls hl => ?_)
  refine lv_goto (tgt := 14) hx hb dX12_leadsIn_99 (by decide) ?_
  exact hk14 _ _ _ _ _ _ hf _ _ _ Z (lv_sub hl [3, 4, 5, 1, 6, 0] rfl)
set_option maxRecDepth 100000 in
set_option maxHeartbeats 4000000 in
theorem b_X12_leadsIn_14 {p : Program} {l : Launch} {e : Env} {s : State} {m : MethodId} {args : Array Value} {below : List Frame} {meth : Method} {c : Code} {D : va_G} {A : Nat → Prop} {ad : Nat → Nat} {cy : Nat → ClassId} {ee : EE} {n : Nat} {res : (Int64 × StT)} (F : CallFix p m c cX12_leadsIn 11 s args (Cond.code yX12_leadsIn cX12_leadsIn 11 (some .long) :: Gw) yX12_leadsIn.cls) (hr : meth.sig.returnType = (some .long)) (hk : meth.locks = false) (K : va_K D vwCl (tyL cy) s) (E : EV ee A s s.heap) (hA : ∀ q, s.heap.size ≤ q → A q) : ∀ (k : Nat) (st : StT) (x1 : Int64) (x3 : Int64) (x5 : Int64) (x7 : Int64) (x9 : Int32), f_X12_leadsIn_14 n k st x1 x3 x5 x7 x9 = some res → ∀ (H : Heap) (locs : List Loc) (ls : Array Slot), ZG D (wM ad cy st) A s H locs → lv_has ls 11 [(0, .ref (ad 0)), (1, .long x1), (3, .long x3), (5, .long x5), (7, .long x7), (9, .int x9)] → W p l e { frames := 0, cells := 0, slots := 0, locals := 0 } s m args below meth c H locs 0 0 (MQ below (QC D (some (.long res.1)) (wM ad cy res.2) A) args s 0 0 A) (F0 m 14 ls []) := by
  have hx := F.1
  have hb := F.2.1
  intro k
  induction k with
  | zero =>
    intro st x1 x3 x5 x7 x9 hf
    exact absurd hf (by simp [f_X12_leadsIn_14])
  | succ k ih =>
    intro st x1 x3 x5 x7 x9 hf H locs ls Z hl
    rw [f_X12_leadsIn_14] at hf
    refine lv_iload hx hb dX12_leadsIn_14 (lv_at hl 5 rfl) ?_
    refine lv_if_lt (tgt := 102) hx hb dX12_leadsIn_16 (by decide) (fun c16 => ?_) (fun c16 => ?_)
    · have hf := if_t c16 hf
      refine lv_lload hx hb dX12_leadsIn_102 (lv_at hl 3 rfl) ?_
      have hf := Option.some.inj hf
      subst hf
      exact ret_l F hr hk Z dX12_leadsIn_104
    have hf := if_f c16 hf
    refine lv_lload_n hx hb dX12_leadsIn_19 rfl (lv_at hl 1 rfl) ?_
    refine lv_iload hx hb dX12_leadsIn_20 (lv_at hl 5 rfl) ?_
    refine lv_lshr hx hb dX12_leadsIn_22 rfl ?_
    refine lv_lconst (v := 1) hx hb dX12_leadsIn_23 (by decide) ?_
    refine lv_land hx hb dX12_leadsIn_24 ?_
    refine lv_lconst (v := 0) hx hb dX12_leadsIn_25 (by decide) ?_
    refine W.lcmp hx hb dX12_leadsIn_26 ?_
    refine lv_if_eq (tgt := 41) hx hb dX12_leadsIn_27 (by decide) (fun c27 => ?_) (fun c27 => ?_)
    · have hf := if_t c27 hf
      refine lv_iconst (v := 1) hx hb dX12_leadsIn_41 (by decide) ?_
      refine lv_goto (tgt := 46) hx hb dX12_leadsIn_42 (by decide) ?_
      exact b_X12_leadsIn_46 F hr hk K E hA ih _ _ _ _ _ _ _ hf _ _ _ Z hl
    have hf := if_f c27 hf
    refine lv_lload_n hx hb dX12_leadsIn_30 rfl (lv_at hl 2 rfl) ?_
    refine lv_iload hx hb dX12_leadsIn_31 (lv_at hl 5 rfl) ?_
    refine lv_lshr hx hb dX12_leadsIn_33 rfl ?_
    refine lv_lconst (v := 1) hx hb dX12_leadsIn_34 (by decide) ?_
    refine lv_land hx hb dX12_leadsIn_35 ?_
    refine lv_lconst (v := 1) hx hb dX12_leadsIn_36 (by decide) ?_
    refine W.lcmp hx hb dX12_leadsIn_37 ?_
    refine lv_if_ne (tgt := 45) hx hb dX12_leadsIn_38 (by decide) (fun c38 => ?_) (fun c38 => ?_)
    · have hf := if_f c38 hf
      refine lv_iconst (v := 0) hx hb dX12_leadsIn_45 (by decide) ?_
      exact b_X12_leadsIn_46 F hr hk K E hA ih _ _ _ _ _ _ _ hf _ _ _ Z hl
    have hf := if_t c38 hf
    refine lv_iconst (v := 1) hx hb dX12_leadsIn_41 (by decide) ?_
    refine lv_goto (tgt := 46) hx hb dX12_leadsIn_42 (by decide) ?_
    exact b_X12_leadsIn_46 F hr hk K E hA ih _ _ _ _ _ _ _ hf _ _ _ Z hl
set_option maxRecDepth 100000 in
set_option maxHeartbeats 4000000 in
theorem c_X12_leadsIn {l : Launch} {D : va_G} {ad : Nat → Nat} {cy : Nat → ClassId} {ee : EE} {n : Nat} {st : StT} {x1 : Int64} {x3 : Int64} {res : (Int64 × StT)} (hf : f_X12_leadsIn n st x1 x3 = some res) : CT l yX12_leadsIn cX12_leadsIn 11 (some .long) 0 0 D cy ee (wM ad cy st) (wM ad cy res.2) [.ref (ad 0), .long x1, .long x3] (some (.long res.1)) := by
  refine CT.of (by decide +kernel) (Nat.le_of_ble_eq_true rfl) ?_
  intro p e s m args below meth c A F hr hk K E hA Z ls hl
  have hl : lv_has ls 11 [(0, .ref (ad 0)), (1, .long x1), (3, .long x3)] := hl
  have hx := F.1
  have hb := F.2.1
  unfold f_X12_leadsIn at hf
  refine lv_lconst (v := 0) hx hb dX12_leadsIn_0 (by decide) ?_
  refine lv_lstore (lv' := [(5, .long (0 : Int64)), (0, .ref (ad 0)), (1, .long x1), (3, .long x3)]) hx hb dX12_leadsIn_1 hl (by decide) rfl (fun ls hl => ?_)
  refine lv_lconst (v := 0) hx hb dX12_leadsIn_3 (by decide) ?_
  refine lv_lstore (lv' := [(7, .long (0 : Int64)), (5, .long (0 : Int64)), (0, .ref (ad 0)), (1, .long x1), (3, .long x3)]) hx hb dX12_leadsIn_4 hl (by decide) rfl (fun ls hl => ?_)
  refine lv_aload_n hx hb dX12_leadsIn_6 rfl (lv_at hl 2 rfl) ?_
  refine gmX12_207 F K Z dX12_leadsIn_7 ?_
  refine lv_iconst (v := 1) hx hb dX12_leadsIn_10 (by decide) ?_
  refine lv_isub hx hb dX12_leadsIn_11 ?_
  refine lv_istore (lv' := [(9, .int ((st.1 36) - (1 : Int32))), (7, .long (0 : Int64)), (5, .long (0 : Int64)), (0, .ref (ad 0)), (1, .long x1), (3, .long x3)]) hx hb dX12_leadsIn_12 hl (by decide) rfl (fun ls hl => ?_)
  exact b_X12_leadsIn_14 F hr hk K E hA _ _ _ _ _ _ _ hf _ _ _ Z (lv_sub hl [3, 4, 5, 2, 1, 0] rfl)
def f_X12_holds_234 (n : Nat) (k29 : StT → Int32 → Int32 → Int32 → Option (Int32 × StT)) (st : StT) (x1 : Int32) (x2 : Int32) (x3 : Int32) (x4 : Int64) : Option (Int32 × StT) := if inB x3 2000 = true then (k29 (uM st 0 x3 x4) x1 x2 (x3 + (1 : Int32))) else none
def f_X12_holds_77 (n : Nat) (k29 : StT → Int32 → Int32 → Int32 → Option (Int32 × StT)) : Nat → StT → Int32 → Int32 → Int32 → Int64 → Int32 → Option (Int32 × StT)
  | 0, _, _, _, _, _, _ => none
  | k + 1, st, x1, x2, x3, x4, x6 => if (st.1 36) ≤ x6 then (f_X12_holds_234 n k29 st x1 x2 x3 x4) else (if inB x6 60 = true then (if inB x3 4200 = true then (f_X12_holds_77 n k29 k st x1 x2 x3 (x4 ||| ((((st.2.1 54 (x6).toNatClampNeg) >>> ((st.2.1 1 (x3).toNatClampNeg) &&& 31)).toInt64 &&& (1 : Int64)) <<< (x6.toInt64 &&& 63))) (x6 + (1 : Int32))) else none) else none)
def f_X12_holds_29 (n : Nat) : Nat → StT → Int32 → Int32 → Int32 → Option (Int32 × StT)
  | 0, _, _, _, _ => none
  | k + 1, st, x1, x2, x3 => if x2 < x3 then (if inB x2 2000 = true then (some ((((st.2.2.2 0 (x2).toNatClampNeg) >>> (x1.toInt64 &&& 63)) &&& (1 : Int64)).toInt32, st)) else none) else (if inB x3 2000 = true then (if (st.2.1 55 (x3).toNatClampNeg) = 0 then (f_X12_holds_29 n k st x1 x2 (x3 + (1 : Int32))) else (if inB x3 4200 = true then (if (st.2.1 0 (x3).toNatClampNeg) = (1 : Int32) then (f_X12_holds_234 n (f_X12_holds_29 n k) st x1 x2 x3 (-1 : Int64)) else (if inB x3 4200 = true then (if (st.2.1 0 (x3).toNatClampNeg) = (2 : Int32) then (f_X12_holds_77 n (f_X12_holds_29 n k) n st x1 x2 x3 (0 : Int64) (0 : Int32)) else (if inB x3 4200 = true then (if (st.2.1 0 (x3).toNatClampNeg) = (3 : Int32) then (if inB x3 4200 = true then (if inB (st.2.1 1 (x3).toNatClampNeg) 2000 = true then (if inB x3 4200 = true then (if inB (st.2.1 2 (x3).toNatClampNeg) 2000 = true then (f_X12_holds_234 n (f_X12_holds_29 n k) st x1 x2 x3 ((st.2.2.2 0 ((st.2.1 1 (x3).toNatClampNeg)).toNatClampNeg) &&& (st.2.2.2 0 ((st.2.1 2 (x3).toNatClampNeg)).toNatClampNeg))) else none) else none) else none) else none) else (if inB x3 4200 = true then (if (st.2.1 0 (x3).toNatClampNeg) = (4 : Int32) then (if inB x3 4200 = true then (if inB (st.2.1 1 (x3).toNatClampNeg) 2000 = true then (if inB x3 4200 = true then (if inB (st.2.1 2 (x3).toNatClampNeg) 2000 = true then (f_X12_holds_234 n (f_X12_holds_29 n k) st x1 x2 x3 ((st.2.2.2 0 ((st.2.1 1 (x3).toNatClampNeg)).toNatClampNeg) ||| (st.2.2.2 0 ((st.2.1 2 (x3).toNatClampNeg)).toNatClampNeg))) else none) else none) else none) else none) else (if inB x3 4200 = true then (if (st.2.1 0 (x3).toNatClampNeg) = (5 : Int32) then (if inB x3 4200 = true then (if inB (st.2.1 1 (x3).toNatClampNeg) 2000 = true then (if inB x3 4200 = true then (if inB (st.2.1 2 (x3).toNatClampNeg) 2000 = true then ((f_X12_leadsIn n st (st.2.2.2 0 ((st.2.1 1 (x3).toNatClampNeg)).toNatClampNeg) (st.2.2.2 0 ((st.2.1 2 (x3).toNatClampNeg)).toNatClampNeg)).bind fun q229 => (f_X12_holds_234 n (f_X12_holds_29 n k) q229.2 x1 x2 x3 q229.1)) else none) else none) else none) else none) else (f_X12_holds_234 n (f_X12_holds_29 n k) st x1 x2 x3 (0 : Int64))) else none)) else none)) else none)) else none)) else none)) else none)
def f_X12_holds (n : Nat) (st : StT) (x1 : Int32) (x2 : Int32) : Option (Int32 × StT) := if x1 < 0 then (some ((-1 : Int32), st)) else (if (st.1 36) ≤ x1 then (some ((-1 : Int32), st)) else ((f_X12_isFormula n st x2).bind fun q14 => (if q14.1 = 0 then (some ((-1 : Int32), q14.2)) else ((f_X12_need n q14.2 x2).bind fun q24 => (f_X12_holds_29 n n q24 x1 x2 (0 : Int32))))))
theorem wd1315 : Cond.fieldLink RX12 184 "WorldProverModel" "holdsIn" "[J" ∈ Gw := gT6 (List.mem_of_getElem? (i := 150) rfl) rfl
theorem wd1316 : Cond.constantLong RX12 496 (-1) ∈ Gw := gT7 (List.mem_of_getElem? (i := 174) rfl) rfl
theorem wd1317 : Cond.fieldLink RX12 181 "WorldProverModel" "forced" "[I" ∈ Gw := gT6 (List.mem_of_getElem? (i := 148) rfl) rfl
theorem wd1318 : Cond.methodLink RX12 493 yX12_need ∈ Gw := gT7 (List.mem_of_getElem? (i := 170) rfl) rfl
theorem wd1319 : Cond.code yX12_need prog_14_method_67_code 3 none ∈ Gw := gT7 (List.mem_of_getElem? (i := 173) rfl) rfl
theorem wd1320 : Cond.instanceMethod yX12_need ∈ Gw := gT7 (List.mem_of_getElem? (i := 172) rfl) rfl
theorem wd1321 : Cond.selects RX12 yX12_need yX12_need ∈ Gw := gP5 (q := (yX12_need, 98)) (List.mem_of_getElem? (i := 15) rfl)
theorem wd1322 : Cond.methodLink RX12 490 yX12_isFormula ∈ Gw := gT7 (List.mem_of_getElem? (i := 166) rfl) rfl
theorem wd1323 : Cond.code yX12_isFormula prog_14_method_66_code 2 (some .boolean) ∈ Gw := gT7 (List.mem_of_getElem? (i := 169) rfl) rfl
theorem wd1324 : Cond.instanceMethod yX12_isFormula ∈ Gw := gT7 (List.mem_of_getElem? (i := 168) rfl) rfl
theorem wd1325 : Cond.selects RX12 yX12_isFormula yX12_isFormula ∈ Gw := gP5 (q := (yX12_isFormula, 98)) (List.mem_of_getElem? (i := 14) rfl)
theorem wd1326 : Cond.methodLink RX12 498 yX12_leadsIn ∈ Gw := gT7 (List.mem_of_getElem? (i := 175) rfl) rfl
theorem wd1327 : Cond.code yX12_leadsIn prog_14_method_68_code 11 (some .long) ∈ Gw := gT7 (List.mem_of_getElem? (i := 178) rfl) rfl
theorem wd1328 : Cond.instanceMethod yX12_leadsIn ∈ Gw := gT7 (List.mem_of_getElem? (i := 177) rfl) rfl
theorem wd1329 : Cond.selects RX12 yX12_leadsIn yX12_leadsIn ∈ Gw := gP6 (q := (yX12_leadsIn, 98)) (List.mem_of_getElem? (i := 0) rfl)
section
variable {p : Program} {l : Launch} {e : Env} {R : Room} {s : State} {m : MethodId} {args : Array Value} {below : List Frame} {meth : Method} {c : Code} {H : Heap} {locs : List Loc} {Q : State → Prop}
variable {cc : ByteArray} {nL pc : Nat} {ls : Array Slot} {rest : List Value} {D : va_G} {A : Nat → Prop} {cw : Cond} {ad : Nat → Nat} {cy : Nat → ClassId} {ee : EE} {st : StT} {own : String}
theorem gmX12_184 (F : CallFix p m c cc nL s args (cw :: Gw) RX12) (K : va_K D vwCl (tyL cy) s) (Z : ZG D (wM ad cy st) A s H locs) (hd : decode cc pc = .ok (.getfield 184, 3)) (kk : W p l e R s m args below meth c H locs 0 0 Q (F0 m (pc + 3) ls (.ref (ad 56) :: rest))) : W p l e R s m args below meth c H locs 0 0 Q (F0 m pc ls (.ref (ad 0) :: rest)) :=
  va_get (D := D) (ci := 12) (C := RX12) (T := TX12) (N := 98) F.1 F.2.1 F.2.2.2.2 (fun w h => List.mem_cons_of_mem _ (inG_X12 w h)) F.2.2.2.1 K Z.1 0 rfl rfl 92 (by decide) (F.2.2.2.2 _ (List.mem_cons_of_mem _ wd1315)) (fun _ h => h) rfl hd kk
theorem ml56 {i : Int32} (F : CallFix p m c cc nL s args (cw :: Gw) own) (K : va_K D vwCl (tyL cy) s) (Z : ZG D (wM ad cy st) A s H locs) (hi : inB i 2000 = true) (hd : decode cc pc = .ok (.laload, 1)) (kk : W p l e R s m args below meth c H locs 0 0 Q (F0 m (pc + 1) ls (.long (st.2.2.2 0 i.toNatClampNeg) :: rest))) : W p l e R s m args below meth c H locs 0 0 Q (F0 m pc ls (.int i :: .ref (ad 56) :: rest)) :=
  va_lald F.1 F.2.1 K Z.1 56 2 rfl rfl (inB_vp hi) hd kk
theorem gmX12_181 (F : CallFix p m c cc nL s args (cw :: Gw) RX12) (K : va_K D vwCl (tyL cy) s) (Z : ZG D (wM ad cy st) A s H locs) (hd : decode cc pc = .ok (.getfield 181, 3)) (kk : W p l e R s m args below meth c H locs 0 0 Q (F0 m (pc + 3) ls (.ref (ad 55) :: rest))) : W p l e R s m args below meth c H locs 0 0 Q (F0 m pc ls (.ref (ad 0) :: rest)) :=
  va_get (D := D) (ci := 12) (C := RX12) (T := TX12) (N := 98) F.1 F.2.1 F.2.2.2.2 (fun w h => List.mem_cons_of_mem _ (inG_X12 w h)) F.2.2.2.1 K Z.1 0 rfl rfl 90 (by decide) (F.2.2.2.2 _ (List.mem_cons_of_mem _ wd1317)) (fun _ h => h) rfl hd kk
theorem ml55 {i : Int32} (F : CallFix p m c cc nL s args (cw :: Gw) own) (K : va_K D vwCl (tyL cy) s) (Z : ZG D (wM ad cy st) A s H locs) (hi : inB i 60 = true) (hd : decode cc pc = .ok (.iaload, 1)) (kk : W p l e R s m args below meth c H locs 0 0 Q (F0 m (pc + 1) ls (.int (st.2.1 54 i.toNatClampNeg) :: rest))) : W p l e R s m args below meth c H locs 0 0 Q (F0 m pc ls (.int i :: .ref (ad 55) :: rest)) :=
  va_iald F.1 F.2.1 K Z.1 55 1 rfl rfl (inB_vp hi) hd kk
theorem ms56 {i : Int32} {v : Int64} (F : CallFix p m c cc nL s args (cw :: Gw) own) (K : va_K D vwCl (tyL cy) s) (Z : ZG D (wM ad cy st) A s H locs) (hi : inB i 2000 = true) (hd : decode cc pc = .ok (.lastore, 1)) (kk : ∀ (H1 : Heap) (locs1 : List Loc), ZG D (wM ad cy (uM st 0 i v)) A s H1 locs1 → W p l e R s m args below meth c H1 locs1 0 0 Q (F0 m (pc + 1) ls rest)) : W p l e R s m args below meth c H locs 0 0 Q (F0 m pc ls (.long v :: .int i :: .ref (ad 56) :: rest)) :=
  va_last F.1 F.2.1 K Z.1 Z.2.1 Z.2.2 56 2 rfl rfl (inB_vp hi) hd (fun H1 locs1 hP hD hS => kk H1 locs1 ⟨hP, hD, hS⟩)
theorem krX12_493_X12_need {n : Nat} {a0 : Int32} {q : StT} (F : CallFix p m c cc nL s args (cw :: Gw) RX12) (K : va_K D vwCl (tyL cy) s) (E : EV ee A s s.heap) (hA : ∀ q, s.heap.size ≤ q → A q) (Z : ZG D (wM ad cy st) A s H locs) (hf : f_X12_need n st a0 = some q) (hR : 1 ≤ R.frames ∧ 22 ≤ R.locals) (hl : ls.size = nL) (hst : (rest.map fun v => v.category).sum ≤ 8) (hd : decode cc pc = .ok (.invokevirtual 493, 3)) (kk : ∀ (H1 : Heap) (locs1 : List Loc), ZG D (wM ad cy q) A s H1 locs1 → W p l e R s m args below meth c H1 locs1 0 0 Q (F0 m (pc + 3) ls (rest))) : W p l e R s m args below meth c H locs 0 0 Q (F0 m pc ls (.int a0 :: .ref (ad 0) :: rest)) :=
  call_V (q := (RX12, TX12, 98)) (n := 1) (As := [.int a0]) (rv := none) 0 12 F K E hA Z (c_X12_need (l := l) (D := D) (ad := ad) (cy := cy) (ee := ee) hf) ⟨wd1319, wd1318, wd1320, wd1321, wd1008⟩ (by decide +kernel) rfl rfl hR rfl hl hst hd kk
theorem krX12_490_X12_isFormula {n : Nat} {a0 : Int32} {q : (Int32 × StT)} (F : CallFix p m c cc nL s args (cw :: Gw) RX12) (K : va_K D vwCl (tyL cy) s) (E : EV ee A s s.heap) (hA : ∀ q, s.heap.size ≤ q → A q) (Z : ZG D (wM ad cy st) A s H locs) (hf : f_X12_isFormula n st a0 = some q) (hR : 1 ≤ R.frames ∧ 21 ≤ R.locals) (hl : ls.size = nL) (hst : (rest.map fun v => v.category).sum ≤ 8) (hd : decode cc pc = .ok (.invokevirtual 490, 3)) (kk : ∀ (H1 : Heap) (locs1 : List Loc), ZG D (wM ad cy q.2) A s H1 locs1 → W p l e R s m args below meth c H1 locs1 0 0 Q (F0 m (pc + 3) ls (.int q.1 :: rest))) : W p l e R s m args below meth c H locs 0 0 Q (F0 m pc ls (.int a0 :: .ref (ad 0) :: rest)) :=
  call_V (q := (RX12, TX12, 98)) (n := 1) (As := [.int a0]) (rv := some (.int q.1)) 0 12 F K E hA Z (c_X12_isFormula (l := l) (D := D) (ad := ad) (cy := cy) (ee := ee) hf) ⟨wd1323, wd1322, wd1324, wd1325, wd1008⟩ (by decide +kernel) rfl rfl hR rfl hl hst hd kk
theorem krX12_498_X12_leadsIn {n : Nat} {a0 : Int64} {a1 : Int64} {q : (Int64 × StT)} (F : CallFix p m c cc nL s args (cw :: Gw) RX12) (K : va_K D vwCl (tyL cy) s) (E : EV ee A s s.heap) (hA : ∀ q, s.heap.size ≤ q → A q) (Z : ZG D (wM ad cy st) A s H locs) (hf : f_X12_leadsIn n st a0 a1 = some q) (hR : 1 ≤ R.frames ∧ 30 ≤ R.locals) (hl : ls.size = nL) (hst : (rest.map fun v => v.category).sum ≤ 8) (hd : decode cc pc = .ok (.invokevirtual 498, 3)) (kk : ∀ (H1 : Heap) (locs1 : List Loc), ZG D (wM ad cy q.2) A s H1 locs1 → W p l e R s m args below meth c H1 locs1 0 0 Q (F0 m (pc + 3) ls (.long q.1 :: rest))) : W p l e R s m args below meth c H locs 0 0 Q (F0 m pc ls (.long a1 :: .long a0 :: .ref (ad 0) :: rest)) :=
  call_V (q := (RX12, TX12, 98)) (n := 2) (As := [.long a0, .long a1]) (rv := some (.long q.1)) 0 12 F K E hA Z (c_X12_leadsIn (l := l) (D := D) (ad := ad) (cy := cy) (ee := ee) hf) ⟨wd1327, wd1326, wd1328, wd1329, wd1008⟩ (by decide +kernel) rfl rfl hR rfl hl hst hd kk
end
set_option maxRecDepth 100000 in
set_option maxHeartbeats 4000000 in
theorem b_X12_holds_234 {p : Program} {l : Launch} {e : Env} {s : State} {m : MethodId} {args : Array Value} {below : List Frame} {meth : Method} {c : Code} {D : va_G} {A : Nat → Prop} {ad : Nat → Nat} {cy : Nat → ClassId} {ee : EE} {n : Nat} {res : (Int32 × StT)} (F : CallFix p m c cX12_holds 7 s args (Cond.code yX12_holds cX12_holds 7 (some .int) :: Gw) yX12_holds.cls) (hr : meth.sig.returnType = (some .int)) (hk : meth.locks = false) (K : va_K D vwCl (tyL cy) s) (E : EV ee A s s.heap) (hA : ∀ q, s.heap.size ≤ q → A q) {k29 : StT → Int32 → Int32 → Int32 → Option (Int32 × StT)} (hk29 : ∀ (st : StT) (x1 : Int32) (x2 : Int32) (x3 : Int32), k29 st x1 x2 x3 = some res → ∀ (H : Heap) (locs : List Loc) (ls : Array Slot), ZG D (wM ad cy st) A s H locs → lv_has ls 7 [(0, .ref (ad 0)), (1, .int x1), (2, .int x2), (3, .int x3)] → W p l e { frames := 1, cells := 0, slots := 0, locals := 30 } s m args below meth c H locs 0 0 (MQ below (QC D (some (.int res.1)) (wM ad cy res.2) A) args s 0 0 A) (F0 m 29 ls [])) : ∀ (st : StT) (x1 : Int32) (x2 : Int32) (x3 : Int32) (x4 : Int64), f_X12_holds_234 n k29 st x1 x2 x3 x4 = some res → ∀ (H : Heap) (locs : List Loc) (ls : Array Slot), ZG D (wM ad cy st) A s H locs → lv_has ls 7 [(0, .ref (ad 0)), (1, .int x1), (2, .int x2), (3, .int x3), (4, .long x4)] → W p l e { frames := 1, cells := 0, slots := 0, locals := 30 } s m args below meth c H locs 0 0 (MQ below (QC D (some (.int res.1)) (wM ad cy res.2) A) args s 0 0 A) (F0 m 234 ls []) := by
  have hx := F.1
  have hb := F.2.1
  intro st x1 x2 x3 x4 hf H locs ls Z hl
  unfold f_X12_holds_234 at hf
  refine lv_aload_n hx hb dX12_holds_234 rfl (lv_at hl 0 rfl) ?_
  refine gmX12_184 F K Z dX12_holds_235 ?_
  refine lv_iload_n hx hb dX12_holds_238 rfl (lv_at hl 3 rfl) ?_
  refine lv_lload hx hb dX12_holds_239 (lv_at hl 4 rfl) ?_
  obtain ⟨i241, hf⟩ := if_some hf
  refine ms56 F K Z i241 dX12_holds_241 (fun H locs Z => ?_)
  refine lv_iinc (v := (x3 + (1 : Int32))) (lv' := [(3, .int (x3 + (1 : Int32))), (0, .ref (ad 0)), (1, .int x1), (2, .int x2), (4, .long x4)]) hx hb dX12_holds_242 hl (k := 3) rfl (congrArg (fun z => x3 + z) (by decide)) (by decide) rfl (fun ls hl => ?_)
  refine lv_goto (tgt := 29) hx hb dX12_holds_245 (by decide) ?_
  exact hk29 _ _ _ _ hf _ _ _ Z (lv_sub hl [1, 2, 3, 0] rfl)
set_option maxRecDepth 100000 in
set_option maxHeartbeats 4000000 in
theorem b_X12_holds_77 {p : Program} {l : Launch} {e : Env} {s : State} {m : MethodId} {args : Array Value} {below : List Frame} {meth : Method} {c : Code} {D : va_G} {A : Nat → Prop} {ad : Nat → Nat} {cy : Nat → ClassId} {ee : EE} {n : Nat} {res : (Int32 × StT)} (F : CallFix p m c cX12_holds 7 s args (Cond.code yX12_holds cX12_holds 7 (some .int) :: Gw) yX12_holds.cls) (hr : meth.sig.returnType = (some .int)) (hk : meth.locks = false) (K : va_K D vwCl (tyL cy) s) (E : EV ee A s s.heap) (hA : ∀ q, s.heap.size ≤ q → A q) {k29 : StT → Int32 → Int32 → Int32 → Option (Int32 × StT)} (hk29 : ∀ (st : StT) (x1 : Int32) (x2 : Int32) (x3 : Int32), k29 st x1 x2 x3 = some res → ∀ (H : Heap) (locs : List Loc) (ls : Array Slot), ZG D (wM ad cy st) A s H locs → lv_has ls 7 [(0, .ref (ad 0)), (1, .int x1), (2, .int x2), (3, .int x3)] → W p l e { frames := 1, cells := 0, slots := 0, locals := 30 } s m args below meth c H locs 0 0 (MQ below (QC D (some (.int res.1)) (wM ad cy res.2) A) args s 0 0 A) (F0 m 29 ls [])) : ∀ (k : Nat) (st : StT) (x1 : Int32) (x2 : Int32) (x3 : Int32) (x4 : Int64) (x6 : Int32), f_X12_holds_77 n k29 k st x1 x2 x3 x4 x6 = some res → ∀ (H : Heap) (locs : List Loc) (ls : Array Slot), ZG D (wM ad cy st) A s H locs → lv_has ls 7 [(0, .ref (ad 0)), (1, .int x1), (2, .int x2), (3, .int x3), (4, .long x4), (6, .int x6)] → W p l e { frames := 1, cells := 0, slots := 0, locals := 30 } s m args below meth c H locs 0 0 (MQ below (QC D (some (.int res.1)) (wM ad cy res.2) A) args s 0 0 A) (F0 m 77 ls []) := by
  have hx := F.1
  have hb := F.2.1
  intro k
  induction k with
  | zero =>
    intro st x1 x2 x3 x4 x6 hf
    exact absurd hf (by simp [f_X12_holds_77])
  | succ k ih =>
    intro st x1 x2 x3 x4 x6 hf H locs ls Z hl
    rw [f_X12_holds_77] at hf
    refine lv_iload hx hb dX12_holds_77 (lv_at hl 5 rfl) ?_
    refine lv_aload_n hx hb dX12_holds_79 rfl (lv_at hl 0 rfl) ?_
    refine gmX12_207 F K Z dX12_holds_80 ?_
    refine lv_icmp_ge (tgt := 117) hx hb dX12_holds_83 (by decide) (fun c83 => ?_) (fun c83 => ?_)
    · have hf := if_t c83 hf
      refine lv_goto (tgt := 234) hx hb dX12_holds_117 (by decide) ?_
      exact b_X12_holds_234 F hr hk K E hA hk29 _ _ _ _ _ hf _ _ _ Z (lv_sub hl [0, 1, 2, 3, 4] rfl)
    have hf := if_f c83 hf
    refine lv_lload hx hb dX12_holds_86 (lv_at hl 4 rfl) ?_
    refine lv_aload_n hx hb dX12_holds_88 rfl (lv_at hl 0 rfl) ?_
    refine gmX12_181 F K Z dX12_holds_89 ?_
    refine lv_iload hx hb dX12_holds_92 (lv_at hl 5 rfl) ?_
    obtain ⟨i94, hf⟩ := if_some hf
    refine ml55 F K Z i94 dX12_holds_94 ?_
    refine lv_aload_n hx hb dX12_holds_95 rfl (lv_at hl 0 rfl) ?_
    refine gmX12_13 F K Z dX12_holds_96 ?_
    refine lv_iload_n hx hb dX12_holds_99 rfl (lv_at hl 3 rfl) ?_
    obtain ⟨i100, hf⟩ := if_some hf
    refine ml2 F K Z i100 dX12_holds_100 ?_
    refine lv_ishr hx hb dX12_holds_101 ?_
    refine lv_i2l hx hb dX12_holds_102 rfl ?_
    refine lv_lconst (v := 1) hx hb dX12_holds_103 (by decide) ?_
    refine lv_land hx hb dX12_holds_104 ?_
    refine lv_iload hx hb dX12_holds_105 (lv_at hl 5 rfl) ?_
    refine lv_lshl hx hb dX12_holds_107 rfl ?_
    refine lv_lor hx hb dX12_holds_108 ?_
    refine lv_lstore (lv' := [(4, .long (x4 ||| ((((st.2.1 54 (x6).toNatClampNeg) >>> ((st.2.1 1 (x3).toNatClampNeg) &&& 31)).toInt64 &&& (1 : Int64)) <<< (x6.toInt64 &&& 63)))), (0, .ref (ad 0)), (1, .int x1), (2, .int x2), (3, .int x3), (6, .int x6)]) hx hb dX12_holds_109 hl (by decide) rfl (fun ls hl => ?_)
    refine lv_iinc (v := (x6 + (1 : Int32))) (lv' := [(6, .int (x6 + (1 : Int32))), (4, .long (x4 ||| ((((st.2.1 54 (x6).toNatClampNeg) >>> ((st.2.1 1 (x3).toNatClampNeg) &&& 31)).toInt64 &&& (1 : Int64)) <<< (x6.toInt64 &&& 63)))), (0, .ref (ad 0)), (1, .int x1), (2, .int x2), (3, .int x3)]) hx hb dX12_holds_111 hl (k := 5) rfl (congrArg (fun z => x6 + z) (by decide)) (by decide) rfl (fun ls hl => ?_)
    refine lv_goto (tgt := 77) hx hb dX12_holds_114 (by decide) ?_
    exact ih _ _ _ _ _ _ hf _ _ _ Z (lv_sub hl [2, 3, 4, 5, 1, 0] rfl)
set_option maxRecDepth 100000 in
set_option maxHeartbeats 4000000 in
theorem b_X12_holds_29 {p : Program} {l : Launch} {e : Env} {s : State} {m : MethodId} {args : Array Value} {below : List Frame} {meth : Method} {c : Code} {D : va_G} {A : Nat → Prop} {ad : Nat → Nat} {cy : Nat → ClassId} {ee : EE} {n : Nat} {res : (Int32 × StT)} (F : CallFix p m c cX12_holds 7 s args (Cond.code yX12_holds cX12_holds 7 (some .int) :: Gw) yX12_holds.cls) (hr : meth.sig.returnType = (some .int)) (hk : meth.locks = false) (K : va_K D vwCl (tyL cy) s) (E : EV ee A s s.heap) (hA : ∀ q, s.heap.size ≤ q → A q) : ∀ (k : Nat) (st : StT) (x1 : Int32) (x2 : Int32) (x3 : Int32), f_X12_holds_29 n k st x1 x2 x3 = some res → ∀ (H : Heap) (locs : List Loc) (ls : Array Slot), ZG D (wM ad cy st) A s H locs → lv_has ls 7 [(0, .ref (ad 0)), (1, .int x1), (2, .int x2), (3, .int x3)] → W p l e { frames := 1, cells := 0, slots := 0, locals := 30 } s m args below meth c H locs 0 0 (MQ below (QC D (some (.int res.1)) (wM ad cy res.2) A) args s 0 0 A) (F0 m 29 ls []) := by
  have hx := F.1
  have hb := F.2.1
  intro k
  induction k with
  | zero =>
    intro st x1 x2 x3 hf
    exact absurd hf (by simp [f_X12_holds_29])
  | succ k ih =>
    intro st x1 x2 x3 hf H locs ls Z hl
    rw [f_X12_holds_29] at hf
    refine lv_iload_n hx hb dX12_holds_29 rfl (lv_at hl 3 rfl) ?_
    refine lv_iload_n hx hb dX12_holds_30 rfl (lv_at hl 2 rfl) ?_
    refine lv_icmp_gt (tgt := 248) hx hb dX12_holds_31 (by decide) (fun c31 => ?_) (fun c31 => ?_)
    · have hf := if_t c31 hf
      refine lv_aload_n hx hb dX12_holds_248 rfl (lv_at hl 0 rfl) ?_
      refine gmX12_184 F K Z dX12_holds_249 ?_
      refine lv_iload_n hx hb dX12_holds_252 rfl (lv_at hl 2 rfl) ?_
      obtain ⟨i253, hf⟩ := if_some hf
      refine ml56 F K Z i253 dX12_holds_253 ?_
      refine lv_iload_n hx hb dX12_holds_254 rfl (lv_at hl 1 rfl) ?_
      refine lv_lshr hx hb dX12_holds_255 rfl ?_
      refine lv_lconst (v := 1) hx hb dX12_holds_256 (by decide) ?_
      refine lv_land hx hb dX12_holds_257 ?_
      refine lv_l2i hx hb dX12_holds_258 rfl ?_
      have hf := Option.some.inj hf
      subst hf
      exact ret_i F hr hk Z dX12_holds_259
    have hf := if_f c31 hf
    refine lv_aload_n hx hb dX12_holds_34 rfl (lv_at hl 0 rfl) ?_
    refine gmX12_188 F K Z dX12_holds_35 ?_
    refine lv_iload_n hx hb dX12_holds_38 rfl (lv_at hl 3 rfl) ?_
    obtain ⟨i39, hf⟩ := if_some hf
    refine ml57 F K Z i39 dX12_holds_39 ?_
    refine lv_if_eq (tgt := 242) hx hb dX12_holds_40 (by decide) (fun c40 => ?_) (fun c40 => ?_)
    · have hf := if_t c40 hf
      refine lv_iinc (v := (x3 + (1 : Int32))) (lv' := [(3, .int (x3 + (1 : Int32))), (0, .ref (ad 0)), (1, .int x1), (2, .int x2)]) hx hb dX12_holds_242 hl (k := 3) rfl (congrArg (fun z => x3 + z) (by decide)) (by decide) rfl (fun ls hl => ?_)
      refine lv_goto (tgt := 29) hx hb dX12_holds_245 (by decide) ?_
      exact ih _ _ _ _ hf _ _ _ Z (lv_sub hl [1, 2, 3, 0] rfl)
    have hf := if_f c40 hf
    refine lv_lconst (v := 0) hx hb dX12_holds_43 (by decide) ?_
    refine lv_lstore (lv' := [(4, .long (0 : Int64)), (0, .ref (ad 0)), (1, .int x1), (2, .int x2), (3, .int x3)]) hx hb dX12_holds_44 hl (by decide) rfl (fun ls hl => ?_)
    refine lv_aload_n hx hb dX12_holds_46 rfl (lv_at hl 1 rfl) ?_
    refine gmX12_7 F K Z dX12_holds_47 ?_
    refine lv_iload_n hx hb dX12_holds_50 rfl (lv_at hl 4 rfl) ?_
    obtain ⟨i51, hf⟩ := if_some hf
    refine ml1 F K Z i51 dX12_holds_51 ?_
    refine lv_iconst (v := 1) hx hb dX12_holds_52 (by decide) ?_
    refine lv_icmp_ne (tgt := 64) hx hb dX12_holds_53 (by decide) (fun c53 => ?_) (fun c53 => ?_)
    · have hf := if_f c53 hf
      refine lv_aload_n hx hb dX12_holds_64 rfl (lv_at hl 1 rfl) ?_
      refine gmX12_7 F K Z dX12_holds_65 ?_
      refine lv_iload_n hx hb dX12_holds_68 rfl (lv_at hl 4 rfl) ?_
      obtain ⟨i69, hf⟩ := if_some hf
      refine ml1 F K Z i69 dX12_holds_69 ?_
      refine lv_iconst (v := 2) hx hb dX12_holds_70 (by decide) ?_
      refine lv_icmp_ne (tgt := 120) hx hb dX12_holds_71 (by decide) (fun c71 => ?_) (fun c71 => ?_)
      · have hf := if_f c71 hf
        refine lv_aload_n hx hb dX12_holds_120 rfl (lv_at hl 1 rfl) ?_
        refine gmX12_7 F K Z dX12_holds_121 ?_
        refine lv_iload_n hx hb dX12_holds_124 rfl (lv_at hl 4 rfl) ?_
        obtain ⟨i125, hf⟩ := if_some hf
        refine ml1 F K Z i125 dX12_holds_125 ?_
        refine lv_iconst (v := 3) hx hb dX12_holds_126 (by decide) ?_
        refine lv_icmp_ne (tgt := 158) hx hb dX12_holds_127 (by decide) (fun c127 => ?_) (fun c127 => ?_)
        · have hf := if_f c127 hf
          refine lv_aload_n hx hb dX12_holds_158 rfl (lv_at hl 1 rfl) ?_
          refine gmX12_7 F K Z dX12_holds_159 ?_
          refine lv_iload_n hx hb dX12_holds_162 rfl (lv_at hl 4 rfl) ?_
          obtain ⟨i163, hf⟩ := if_some hf
          refine ml1 F K Z i163 dX12_holds_163 ?_
          refine lv_iconst (v := 4) hx hb dX12_holds_164 (by decide) ?_
          refine lv_icmp_ne (tgt := 196) hx hb dX12_holds_165 (by decide) (fun c165 => ?_) (fun c165 => ?_)
          · have hf := if_f c165 hf
            refine lv_aload_n hx hb dX12_holds_196 rfl (lv_at hl 1 rfl) ?_
            refine gmX12_7 F K Z dX12_holds_197 ?_
            refine lv_iload_n hx hb dX12_holds_200 rfl (lv_at hl 4 rfl) ?_
            obtain ⟨i201, hf⟩ := if_some hf
            refine ml1 F K Z i201 dX12_holds_201 ?_
            refine lv_iconst (v := 5) hx hb dX12_holds_202 (by decide) ?_
            refine lv_icmp_ne (tgt := 234) hx hb dX12_holds_203 (by decide) (fun c203 => ?_) (fun c203 => ?_)
            · have hf := if_f c203 hf
              exact b_X12_holds_234 F hr hk K E hA ih _ _ _ _ _ hf _ _ _ Z (lv_sub hl [1, 2, 3, 4, 0] rfl)
            have hf := if_t c203 hf
            refine lv_aload_n hx hb dX12_holds_206 rfl (lv_at hl 1 rfl) ?_
            refine lv_aload_n hx hb dX12_holds_207 rfl (lv_at hl 1 rfl) ?_
            refine gmX12_184 F K Z dX12_holds_208 ?_
            refine lv_aload_n hx hb dX12_holds_211 rfl (lv_at hl 1 rfl) ?_
            refine gmX12_13 F K Z dX12_holds_212 ?_
            refine lv_iload_n hx hb dX12_holds_215 rfl (lv_at hl 4 rfl) ?_
            obtain ⟨i216, hf⟩ := if_some hf
            refine ml2 F K Z i216 dX12_holds_216 ?_
            obtain ⟨i217, hf⟩ := if_some hf
            refine ml56 F K Z i217 dX12_holds_217 ?_
            refine lv_aload_n hx hb dX12_holds_218 rfl (lv_at hl 1 rfl) ?_
            refine gmX12_184 F K Z dX12_holds_219 ?_
            refine lv_aload_n hx hb dX12_holds_222 rfl (lv_at hl 1 rfl) ?_
            refine gmX12_16 F K Z dX12_holds_223 ?_
            refine lv_iload_n hx hb dX12_holds_226 rfl (lv_at hl 4 rfl) ?_
            obtain ⟨i227, hf⟩ := if_some hf
            refine ml3 F K Z i227 dX12_holds_227 ?_
            obtain ⟨i228, hf⟩ := if_some hf
            refine ml56 F K Z i228 dX12_holds_228 ?_
            obtain ⟨q229, h229, hf⟩ := bind_some hf
            refine krX12_498_X12_leadsIn F K E hA Z h229 ⟨Nat.le_of_ble_eq_true rfl, Nat.le_of_ble_eq_true rfl⟩ hl.1 (Nat.le_of_ble_eq_true rfl) dX12_holds_229 (fun H locs Z => ?_)
            refine lv_lstore (lv' := [(4, .long q229.1), (0, .ref (ad 0)), (1, .int x1), (2, .int x2), (3, .int x3)]) hx hb dX12_holds_232 hl (by decide) rfl (fun ls hl => ?_)
            exact b_X12_holds_234 F hr hk K E hA ih _ _ _ _ _ hf _ _ _ Z (lv_sub hl [1, 2, 3, 4, 0] rfl)
          have hf := if_t c165 hf
          refine lv_aload_n hx hb dX12_holds_168 rfl (lv_at hl 1 rfl) ?_
          refine gmX12_184 F K Z dX12_holds_169 ?_
          refine lv_aload_n hx hb dX12_holds_172 rfl (lv_at hl 1 rfl) ?_
          refine gmX12_13 F K Z dX12_holds_173 ?_
          refine lv_iload_n hx hb dX12_holds_176 rfl (lv_at hl 4 rfl) ?_
          obtain ⟨i177, hf⟩ := if_some hf
          refine ml2 F K Z i177 dX12_holds_177 ?_
          obtain ⟨i178, hf⟩ := if_some hf
          refine ml56 F K Z i178 dX12_holds_178 ?_
          refine lv_aload_n hx hb dX12_holds_179 rfl (lv_at hl 1 rfl) ?_
          refine gmX12_184 F K Z dX12_holds_180 ?_
          refine lv_aload_n hx hb dX12_holds_183 rfl (lv_at hl 1 rfl) ?_
          refine gmX12_16 F K Z dX12_holds_184 ?_
          refine lv_iload_n hx hb dX12_holds_187 rfl (lv_at hl 4 rfl) ?_
          obtain ⟨i188, hf⟩ := if_some hf
          refine ml3 F K Z i188 dX12_holds_188 ?_
          obtain ⟨i189, hf⟩ := if_some hf
          refine ml56 F K Z i189 dX12_holds_189 ?_
          refine lv_lor hx hb dX12_holds_190 ?_
          refine lv_lstore (lv' := [(4, .long ((st.2.2.2 0 ((st.2.1 1 (x3).toNatClampNeg)).toNatClampNeg) ||| (st.2.2.2 0 ((st.2.1 2 (x3).toNatClampNeg)).toNatClampNeg))), (0, .ref (ad 0)), (1, .int x1), (2, .int x2), (3, .int x3)]) hx hb dX12_holds_191 hl (by decide) rfl (fun ls hl => ?_)
          refine lv_goto (tgt := 234) hx hb dX12_holds_193 (by decide) ?_
          exact b_X12_holds_234 F hr hk K E hA ih _ _ _ _ _ hf _ _ _ Z (lv_sub hl [1, 2, 3, 4, 0] rfl)
        have hf := if_t c127 hf
        refine lv_aload_n hx hb dX12_holds_130 rfl (lv_at hl 1 rfl) ?_
        refine gmX12_184 F K Z dX12_holds_131 ?_
        refine lv_aload_n hx hb dX12_holds_134 rfl (lv_at hl 1 rfl) ?_
        refine gmX12_13 F K Z dX12_holds_135 ?_
        refine lv_iload_n hx hb dX12_holds_138 rfl (lv_at hl 4 rfl) ?_
        obtain ⟨i139, hf⟩ := if_some hf
        refine ml2 F K Z i139 dX12_holds_139 ?_
        obtain ⟨i140, hf⟩ := if_some hf
        refine ml56 F K Z i140 dX12_holds_140 ?_
        refine lv_aload_n hx hb dX12_holds_141 rfl (lv_at hl 1 rfl) ?_
        refine gmX12_184 F K Z dX12_holds_142 ?_
        refine lv_aload_n hx hb dX12_holds_145 rfl (lv_at hl 1 rfl) ?_
        refine gmX12_16 F K Z dX12_holds_146 ?_
        refine lv_iload_n hx hb dX12_holds_149 rfl (lv_at hl 4 rfl) ?_
        obtain ⟨i150, hf⟩ := if_some hf
        refine ml3 F K Z i150 dX12_holds_150 ?_
        obtain ⟨i151, hf⟩ := if_some hf
        refine ml56 F K Z i151 dX12_holds_151 ?_
        refine lv_land hx hb dX12_holds_152 ?_
        refine lv_lstore (lv' := [(4, .long ((st.2.2.2 0 ((st.2.1 1 (x3).toNatClampNeg)).toNatClampNeg) &&& (st.2.2.2 0 ((st.2.1 2 (x3).toNatClampNeg)).toNatClampNeg))), (0, .ref (ad 0)), (1, .int x1), (2, .int x2), (3, .int x3)]) hx hb dX12_holds_153 hl (by decide) rfl (fun ls hl => ?_)
        refine lv_goto (tgt := 234) hx hb dX12_holds_155 (by decide) ?_
        exact b_X12_holds_234 F hr hk K E hA ih _ _ _ _ _ hf _ _ _ Z (lv_sub hl [1, 2, 3, 4, 0] rfl)
      have hf := if_t c71 hf
      refine lv_iconst (v := 0) hx hb dX12_holds_74 (by decide) ?_
      refine lv_istore (lv' := [(6, .int (0 : Int32)), (4, .long (0 : Int64)), (0, .ref (ad 0)), (1, .int x1), (2, .int x2), (3, .int x3)]) hx hb dX12_holds_75 hl (by decide) rfl (fun ls hl => ?_)
      exact b_X12_holds_77 F hr hk K E hA ih _ _ _ _ _ _ _ hf _ _ _ Z (lv_sub hl [2, 3, 4, 5, 1, 0] rfl)
    have hf := if_t c53 hf
    refine lv_ldc2 (v := -1) hx hb F.2.2.2.1 (F.2.2.2.2 _ (List.mem_cons_of_mem _ wd1316)) dX12_holds_56 ?_
    refine lv_lstore (lv' := [(4, .long (-1 : Int64)), (0, .ref (ad 0)), (1, .int x1), (2, .int x2), (3, .int x3)]) hx hb dX12_holds_59 hl (by decide) rfl (fun ls hl => ?_)
    refine lv_goto (tgt := 234) hx hb dX12_holds_61 (by decide) ?_
    exact b_X12_holds_234 F hr hk K E hA ih _ _ _ _ _ hf _ _ _ Z (lv_sub hl [1, 2, 3, 4, 0] rfl)
set_option maxRecDepth 100000 in
set_option maxHeartbeats 4000000 in
theorem c_X12_holds {l : Launch} {D : va_G} {ad : Nat → Nat} {cy : Nat → ClassId} {ee : EE} {n : Nat} {st : StT} {x1 : Int32} {x2 : Int32} {res : (Int32 × StT)} (hf : f_X12_holds n st x1 x2 = some res) : CT l yX12_holds cX12_holds 7 (some .int) 1 30 D cy ee (wM ad cy st) (wM ad cy res.2) [.ref (ad 0), .int x1, .int x2] (some (.int res.1)) := by
  refine CT.of (by decide +kernel) (Nat.le_of_ble_eq_true rfl) ?_
  intro p e s m args below meth c A F hr hk K E hA Z ls hl
  have hl : lv_has ls 7 [(0, .ref (ad 0)), (1, .int x1), (2, .int x2)] := hl
  have hx := F.1
  have hb := F.2.1
  unfold f_X12_holds at hf
  refine lv_iload_n hx hb dX12_holds_0 rfl (lv_at hl 1 rfl) ?_
  refine lv_if_lt (tgt := 20) hx hb dX12_holds_1 (by decide) (fun c1 => ?_) (fun c1 => ?_)
  · have hf := if_t c1 hf
    refine lv_iconst (v := -1) hx hb dX12_holds_20 (by decide) ?_
    have hf := Option.some.inj hf
    subst hf
    exact ret_i F hr hk Z dX12_holds_21
  have hf := if_f c1 hf
  refine lv_iload_n hx hb dX12_holds_4 rfl (lv_at hl 1 rfl) ?_
  refine lv_aload_n hx hb dX12_holds_5 rfl (lv_at hl 0 rfl) ?_
  refine gmX12_207 F K Z dX12_holds_6 ?_
  refine lv_icmp_ge (tgt := 20) hx hb dX12_holds_9 (by decide) (fun c9 => ?_) (fun c9 => ?_)
  · have hf := if_t c9 hf
    refine lv_iconst (v := -1) hx hb dX12_holds_20 (by decide) ?_
    have hf := Option.some.inj hf
    subst hf
    exact ret_i F hr hk Z dX12_holds_21
  have hf := if_f c9 hf
  refine lv_aload_n hx hb dX12_holds_12 rfl (lv_at hl 0 rfl) ?_
  refine lv_iload_n hx hb dX12_holds_13 rfl (lv_at hl 2 rfl) ?_
  obtain ⟨q14, h14, hf⟩ := bind_some hf
  refine krX12_490_X12_isFormula F K E hA Z h14 ⟨Nat.le_of_ble_eq_true rfl, Nat.le_of_ble_eq_true rfl⟩ hl.1 (Nat.le_of_ble_eq_true rfl) dX12_holds_14 (fun H locs Z => ?_)
  refine lv_if_ne (tgt := 22) hx hb dX12_holds_17 (by decide) (fun c17 => ?_) (fun c17 => ?_)
  · have hf := if_f c17 hf
    refine lv_aload_n hx hb dX12_holds_22 rfl (lv_at hl 0 rfl) ?_
    refine lv_iload_n hx hb dX12_holds_23 rfl (lv_at hl 2 rfl) ?_
    obtain ⟨q24, h24, hf⟩ := bind_some hf
    refine krX12_493_X12_need F K E hA Z h24 ⟨Nat.le_of_ble_eq_true rfl, Nat.le_of_ble_eq_true rfl⟩ hl.1 (Nat.le_of_ble_eq_true rfl) dX12_holds_24 (fun H locs Z => ?_)
    refine lv_iconst (v := 0) hx hb dX12_holds_27 (by decide) ?_
    refine lv_istore_n (lv' := [(3, .int (0 : Int32)), (0, .ref (ad 0)), (1, .int x1), (2, .int x2)]) hx hb dX12_holds_28 rfl hl (by decide) rfl (fun ls hl => ?_)
    exact b_X12_holds_29 F hr hk K E hA _ _ _ _ _ hf _ _ _ Z (lv_sub hl [1, 2, 3, 0] rfl)
  have hf := if_t c17 hf
  refine lv_iconst (v := -1) hx hb dX12_holds_20 (by decide) ?_
  have hf := Option.some.inj hf
  subst hf
  exact ret_i F hr hk Z dX12_holds_21
def f_X12_isOver_2 (n : Nat) : Nat → StT → Int32 → Int32 → Option (Int32 × StT)
  | 0, _, _, _ => none
  | k + 1, st, x2, x3 => if x3 ≤ x2 then (if x3 = x2 then (some ((1 : Int32), st)) else (some ((0 : Int32), st))) else (if inB x3 60 = true then (f_X12_isOver_2 n k st x2 (st.2.1 53 (x3).toNatClampNeg)) else none)
def f_X12_isOver (n : Nat) (st : StT) (x1 : Int32) (x2 : Int32) : Option (Int32 × StT) := f_X12_isOver_2 n n st x2 x1
set_option maxRecDepth 100000 in
set_option maxHeartbeats 4000000 in
theorem b_X12_isOver_2 {p : Program} {l : Launch} {e : Env} {s : State} {m : MethodId} {args : Array Value} {below : List Frame} {meth : Method} {c : Code} {D : va_G} {A : Nat → Prop} {ad : Nat → Nat} {cy : Nat → ClassId} {ee : EE} {n : Nat} {res : (Int32 × StT)} (F : CallFix p m c cX12_isOver 4 s args (Cond.code yX12_isOver cX12_isOver 4 (some .boolean) :: Gw) yX12_isOver.cls) (hr : meth.sig.returnType = (some .boolean)) (hk : meth.locks = false) (K : va_K D vwCl (tyL cy) s) (E : EV ee A s s.heap) (hA : ∀ q, s.heap.size ≤ q → A q) : ∀ (k : Nat) (st : StT) (x2 : Int32) (x3 : Int32), f_X12_isOver_2 n k st x2 x3 = some res → ∀ (H : Heap) (locs : List Loc) (ls : Array Slot), ZG D (wM ad cy st) A s H locs → lv_has ls 4 [(0, .ref (ad 0)), (2, .int x2), (3, .int x3)] → W p l e { frames := 0, cells := 0, slots := 0, locals := 0 } s m args below meth c H locs 0 0 (MQ below (QC D (some (.int res.1)) (wM ad cy res.2) A) args s 0 0 A) (F0 m 2 ls []) := by
  have hx := F.1
  have hb := F.2.1
  intro k
  induction k with
  | zero =>
    intro st x2 x3 hf
    exact absurd hf (by simp [f_X12_isOver_2])
  | succ k ih =>
    intro st x2 x3 hf H locs ls Z hl
    rw [f_X12_isOver_2] at hf
    refine lv_iload_n hx hb dX12_isOver_2 rfl (lv_at hl 2 rfl) ?_
    refine lv_iload_n hx hb dX12_isOver_3 rfl (lv_at hl 1 rfl) ?_
    refine lv_icmp_le (tgt := 17) hx hb dX12_isOver_4 (by decide) (fun c4 => ?_) (fun c4 => ?_)
    · have hf := if_t c4 hf
      refine lv_iload_n hx hb dX12_isOver_17 rfl (lv_at hl 2 rfl) ?_
      refine lv_iload_n hx hb dX12_isOver_18 rfl (lv_at hl 1 rfl) ?_
      refine lv_icmp_ne (tgt := 26) hx hb dX12_isOver_19 (by decide) (fun c19 => ?_) (fun c19 => ?_)
      · have hf := if_f c19 hf
        refine lv_iconst (v := 0) hx hb dX12_isOver_26 (by decide) ?_
        have hf := Option.some.inj hf
        subst hf
        exact ret_z F hr hk Z rfl dX12_isOver_27
      have hf := if_t c19 hf
      refine lv_iconst (v := 1) hx hb dX12_isOver_22 (by decide) ?_
      refine lv_goto (tgt := 27) hx hb dX12_isOver_23 (by decide) ?_
      have hf := Option.some.inj hf
      subst hf
      exact ret_z F hr hk Z rfl dX12_isOver_27
    have hf := if_f c4 hf
    refine lv_aload_n hx hb dX12_isOver_7 rfl (lv_at hl 0 rfl) ?_
    refine gmX12_178 F K Z dX12_isOver_8 ?_
    refine lv_iload_n hx hb dX12_isOver_11 rfl (lv_at hl 2 rfl) ?_
    obtain ⟨i12, hf⟩ := if_some hf
    refine ml54 F K Z i12 dX12_isOver_12 ?_
    refine lv_istore_n (lv' := [(3, .int (st.2.1 53 (x3).toNatClampNeg)), (0, .ref (ad 0)), (2, .int x2)]) hx hb dX12_isOver_13 rfl hl (by decide) rfl (fun ls hl => ?_)
    refine lv_goto (tgt := 2) hx hb dX12_isOver_14 (by decide) ?_
    exact ih _ _ _ hf _ _ _ Z (lv_sub hl [1, 2, 0] rfl)
set_option maxRecDepth 100000 in
set_option maxHeartbeats 4000000 in
theorem c_X12_isOver {l : Launch} {D : va_G} {ad : Nat → Nat} {cy : Nat → ClassId} {ee : EE} {n : Nat} {st : StT} {x1 : Int32} {x2 : Int32} {res : (Int32 × StT)} (hf : f_X12_isOver n st x1 x2 = some res) : CT l yX12_isOver cX12_isOver 4 (some .boolean) 0 0 D cy ee (wM ad cy st) (wM ad cy res.2) [.ref (ad 0), .int x1, .int x2] (some (.int res.1)) := by
  refine CT.of (by decide +kernel) (Nat.le_of_ble_eq_true rfl) ?_
  intro p e s m args below meth c A F hr hk K E hA Z ls hl
  have hl : lv_has ls 4 [(0, .ref (ad 0)), (1, .int x1), (2, .int x2)] := hl
  have hx := F.1
  have hb := F.2.1
  unfold f_X12_isOver at hf
  refine lv_iload_n hx hb dX12_isOver_0 rfl (lv_at hl 1 rfl) ?_
  refine lv_istore_n (lv' := [(3, .int x1), (0, .ref (ad 0)), (1, .int x1), (2, .int x2)]) hx hb dX12_isOver_1 rfl hl (by decide) rfl (fun ls hl => ?_)
  exact b_X12_isOver_2 F hr hk K E hA _ _ _ _ hf _ _ _ Z (lv_sub hl [1, 3, 0] rfl)
def f_X12_clear (n : Nat) (st : StT) : Option (Int32 × StT) := if inB (0 : Int32) 60 = true then (if inB (0 : Int32) 60 = true then (some ((st.1 36), (uA (uA (uF st 36 (1 : Int32)) 53 (0 : Int32) (-1 : Int32)) 54 (0 : Int32) (0 : Int32)))) else none) else none
section
variable {p : Program} {l : Launch} {e : Env} {R : Room} {s : State} {m : MethodId} {args : Array Value} {below : List Frame} {meth : Method} {c : Code} {H : Heap} {locs : List Loc} {Q : State → Prop}
variable {cc : ByteArray} {nL pc : Nat} {ls : Array Slot} {rest : List Value} {D : va_G} {A : Nat → Prop} {cw : Cond} {ad : Nat → Nat} {cy : Nat → ClassId} {ee : EE} {st : StT} {own : String}
theorem pmX12_207 {v : Int32} (F : CallFix p m c cc nL s args (cw :: Gw) RX12) (K : va_K D vwCl (tyL cy) s) (Z : ZG D (wM ad cy st) A s H locs) (hd : decode cc pc = .ok (.putfield 207, 3)) (kk : ∀ (H1 : Heap) (locs1 : List Loc), ZG D (wM ad cy (uF st 36 v)) A s H1 locs1 → W p l e R s m args below meth c H1 locs1 0 0 Q (F0 m (pc + 3) ls rest)) : W p l e R s m args below meth c H locs 0 0 Q (F0 m pc ls (.int v :: .ref (ad 0) :: rest)) :=
  va_put (D := D) (ci := 12) (v := .int v) (ty := .int) (C := RX12) (T := TX12) (N := 98) F.1 F.2.1 F.2.2.2.2 (fun w h => List.mem_cons_of_mem _ (inG_X12 w h)) tyX12 tyX12_ok nmX12 F.2.2.2.1 K Z.1 Z.2.1 Z.2.2 0 rfl rfl 91 (by decide) (F.2.2.2.2 _ (List.mem_cons_of_mem _ wd1313)) (fun _ h => h) rfl (by decide +kernel) rfl rfl (Nat.le_of_ble_eq_true rfl) hd (fun H1 locs1 hP hD hS => kk H1 locs1 ⟨hP, hD, hS⟩)
theorem ms54 {i : Int32} {v : Int32} (F : CallFix p m c cc nL s args (cw :: Gw) own) (K : va_K D vwCl (tyL cy) s) (Z : ZG D (wM ad cy st) A s H locs) (hi : inB i 60 = true) (hd : decode cc pc = .ok (.iastore, 1)) (kk : ∀ (H1 : Heap) (locs1 : List Loc), ZG D (wM ad cy (uA st 53 i v)) A s H1 locs1 → W p l e R s m args below meth c H1 locs1 0 0 Q (F0 m (pc + 1) ls rest)) : W p l e R s m args below meth c H locs 0 0 Q (F0 m pc ls (.int v :: .int i :: .ref (ad 54) :: rest)) :=
  va_iast F.1 F.2.1 K Z.1 Z.2.1 Z.2.2 54 1 rfl rfl (inB_vp hi) hd (fun H1 locs1 hP hD hS => kk H1 locs1 ⟨hP, hD, hS⟩)
theorem ms55 {i : Int32} {v : Int32} (F : CallFix p m c cc nL s args (cw :: Gw) own) (K : va_K D vwCl (tyL cy) s) (Z : ZG D (wM ad cy st) A s H locs) (hi : inB i 60 = true) (hd : decode cc pc = .ok (.iastore, 1)) (kk : ∀ (H1 : Heap) (locs1 : List Loc), ZG D (wM ad cy (uA st 54 i v)) A s H1 locs1 → W p l e R s m args below meth c H1 locs1 0 0 Q (F0 m (pc + 1) ls rest)) : W p l e R s m args below meth c H locs 0 0 Q (F0 m pc ls (.int v :: .int i :: .ref (ad 55) :: rest)) :=
  va_iast F.1 F.2.1 K Z.1 Z.2.1 Z.2.2 55 1 rfl rfl (inB_vp hi) hd (fun H1 locs1 hP hD hS => kk H1 locs1 ⟨hP, hD, hS⟩)
end
set_option maxRecDepth 100000 in
set_option maxHeartbeats 4000000 in
theorem c_X12_clear {l : Launch} {D : va_G} {ad : Nat → Nat} {cy : Nat → ClassId} {ee : EE} {n : Nat} {st : StT} {res : (Int32 × StT)} (hf : f_X12_clear n st = some res) : CT l yX12_clear cX12_clear 2 (some .int) 0 0 D cy ee (wM ad cy st) (wM ad cy res.2) [.ref (ad 0)] (some (.int res.1)) := by
  refine CT.of (by decide +kernel) (Nat.le_of_ble_eq_true rfl) ?_
  intro p e s m args below meth c A F hr hk K E hA Z ls hl
  have hl : lv_has ls 2 [(0, .ref (ad 0))] := hl
  have hx := F.1
  have hb := F.2.1
  unfold f_X12_clear at hf
  refine lv_aload_n hx hb dX12_clear_0 rfl (lv_at hl 0 rfl) ?_
  refine gmX12_207 F K Z dX12_clear_1 ?_
  refine lv_istore_n (lv' := [(1, .int (st.1 36)), (0, .ref (ad 0))]) hx hb dX12_clear_4 rfl hl (by decide) rfl (fun ls hl => ?_)
  refine lv_aload_n hx hb dX12_clear_5 rfl (lv_at hl 1 rfl) ?_
  refine lv_iconst (v := 1) hx hb dX12_clear_6 (by decide) ?_
  refine pmX12_207 F K Z dX12_clear_7 (fun H locs Z => ?_)
  refine lv_aload_n hx hb dX12_clear_10 rfl (lv_at hl 1 rfl) ?_
  refine gmX12_178 F K Z dX12_clear_11 ?_
  refine lv_iconst (v := 0) hx hb dX12_clear_14 (by decide) ?_
  refine lv_iconst (v := -1) hx hb dX12_clear_15 (by decide) ?_
  obtain ⟨i16, hf⟩ := if_some hf
  refine ms54 F K Z i16 dX12_clear_16 (fun H locs Z => ?_)
  refine lv_aload_n hx hb dX12_clear_17 rfl (lv_at hl 1 rfl) ?_
  refine gmX12_181 F K Z dX12_clear_18 ?_
  refine lv_iconst (v := 0) hx hb dX12_clear_21 (by decide) ?_
  refine lv_iconst (v := 0) hx hb dX12_clear_22 (by decide) ?_
  obtain ⟨i23, hf⟩ := if_some hf
  refine ms55 F K Z i23 dX12_clear_23 (fun H locs Z => ?_)
  refine lv_iload_n hx hb dX12_clear_24 rfl (lv_at hl 0 rfl) ?_
  have hf := Option.some.inj hf
  subst hf
  exact ret_i F hr hk Z dX12_clear_25
def f_X12_world (n : Nat) (st : StT) (x1 : Int32) : Option (Int32 × StT) := if x1 < 0 then (some ((-1 : Int32), st)) else (if x1 < (st.1 36) then (if (st.1 36) = (60 : Int32) then (some ((-4 : Int32), st)) else (if inB (st.1 36) 60 = true then (if inB x1 60 = true then (if inB ((uA st 53 (st.1 36) x1).1 36) 60 = true then (some ((((uF (uA (uA st 53 (st.1 36) x1) 54 ((uA st 53 (st.1 36) x1).1 36) ((uA st 53 (st.1 36) x1).2.1 54 (x1).toNatClampNeg)) 36 (((uA (uA st 53 (st.1 36) x1) 54 ((uA st 53 (st.1 36) x1).1 36) ((uA st 53 (st.1 36) x1).2.1 54 (x1).toNatClampNeg)).1 36) + (1 : Int32))).1 36) - (1 : Int32)), (uF (uA (uA st 53 (st.1 36) x1) 54 ((uA st 53 (st.1 36) x1).1 36) ((uA st 53 (st.1 36) x1).2.1 54 (x1).toNatClampNeg)) 36 (((uA (uA st 53 (st.1 36) x1) 54 ((uA st 53 (st.1 36) x1).1 36) ((uA st 53 (st.1 36) x1).2.1 54 (x1).toNatClampNeg)).1 36) + (1 : Int32))))) else none) else none) else none)) else (some ((-1 : Int32), st)))
set_option maxRecDepth 100000 in
set_option maxHeartbeats 4000000 in
theorem c_X12_world {l : Launch} {D : va_G} {ad : Nat → Nat} {cy : Nat → ClassId} {ee : EE} {n : Nat} {st : StT} {x1 : Int32} {res : (Int32 × StT)} (hf : f_X12_world n st x1 = some res) : CT l yX12_world cX12_world 2 (some .int) 0 0 D cy ee (wM ad cy st) (wM ad cy res.2) [.ref (ad 0), .int x1] (some (.int res.1)) := by
  refine CT.of (by decide +kernel) (Nat.le_of_ble_eq_true rfl) ?_
  intro p e s m args below meth c A F hr hk K E hA Z ls hl
  have hl : lv_has ls 2 [(0, .ref (ad 0)), (1, .int x1)] := hl
  have hx := F.1
  have hb := F.2.1
  unfold f_X12_world at hf
  refine lv_iload_n hx hb dX12_world_0 rfl (lv_at hl 1 rfl) ?_
  refine lv_if_lt (tgt := 12) hx hb dX12_world_1 (by decide) (fun c1 => ?_) (fun c1 => ?_)
  · have hf := if_t c1 hf
    refine lv_iconst (v := -1) hx hb dX12_world_12 (by decide) ?_
    have hf := Option.some.inj hf
    subst hf
    exact ret_i F hr hk Z dX12_world_13
  have hf := if_f c1 hf
  refine lv_iload_n hx hb dX12_world_4 rfl (lv_at hl 1 rfl) ?_
  refine lv_aload_n hx hb dX12_world_5 rfl (lv_at hl 0 rfl) ?_
  refine gmX12_207 F K Z dX12_world_6 ?_
  refine lv_icmp_lt (tgt := 14) hx hb dX12_world_9 (by decide) (fun c9 => ?_) (fun c9 => ?_)
  · have hf := if_t c9 hf
    refine lv_aload_n hx hb dX12_world_14 rfl (lv_at hl 0 rfl) ?_
    refine gmX12_207 F K Z dX12_world_15 ?_
    refine lv_bipush (v := 60) hx hb dX12_world_18 (by decide) ?_
    refine lv_icmp_ne (tgt := 26) hx hb dX12_world_20 (by decide) (fun c20 => ?_) (fun c20 => ?_)
    · have hf := if_f c20 hf
      refine lv_aload_n hx hb dX12_world_26 rfl (lv_at hl 0 rfl) ?_
      refine gmX12_178 F K Z dX12_world_27 ?_
      refine lv_aload_n hx hb dX12_world_30 rfl (lv_at hl 0 rfl) ?_
      refine gmX12_207 F K Z dX12_world_31 ?_
      refine lv_iload_n hx hb dX12_world_34 rfl (lv_at hl 1 rfl) ?_
      obtain ⟨i35, hf⟩ := if_some hf
      refine ms54 F K Z i35 dX12_world_35 (fun H locs Z => ?_)
      refine lv_aload_n hx hb dX12_world_36 rfl (lv_at hl 0 rfl) ?_
      refine gmX12_181 F K Z dX12_world_37 ?_
      refine lv_aload_n hx hb dX12_world_40 rfl (lv_at hl 0 rfl) ?_
      refine gmX12_207 F K Z dX12_world_41 ?_
      refine lv_aload_n hx hb dX12_world_44 rfl (lv_at hl 0 rfl) ?_
      refine gmX12_181 F K Z dX12_world_45 ?_
      refine lv_iload_n hx hb dX12_world_48 rfl (lv_at hl 1 rfl) ?_
      obtain ⟨i49, hf⟩ := if_some hf
      refine ml55 F K Z i49 dX12_world_49 ?_
      obtain ⟨i50, hf⟩ := if_some hf
      refine ms55 F K Z i50 dX12_world_50 (fun H locs Z => ?_)
      refine lv_aload_n hx hb dX12_world_51 rfl (lv_at hl 0 rfl) ?_
      refine lv_dup hx hb dX12_world_52 rfl ?_
      refine gmX12_207 F K Z dX12_world_53 ?_
      refine lv_iconst (v := 1) hx hb dX12_world_56 (by decide) ?_
      refine lv_iadd hx hb dX12_world_57 ?_
      refine pmX12_207 F K Z dX12_world_58 (fun H locs Z => ?_)
      refine lv_aload_n hx hb dX12_world_61 rfl (lv_at hl 0 rfl) ?_
      refine gmX12_207 F K Z dX12_world_62 ?_
      refine lv_iconst (v := 1) hx hb dX12_world_65 (by decide) ?_
      refine lv_isub hx hb dX12_world_66 ?_
      have hf := Option.some.inj hf
      subst hf
      exact ret_i F hr hk Z dX12_world_67
    have hf := if_t c20 hf
    refine lv_bipush (v := -4) hx hb dX12_world_23 (by decide) ?_
    have hf := Option.some.inj hf
    subst hf
    exact ret_i F hr hk Z dX12_world_25
  have hf := if_f c9 hf
  refine lv_iconst (v := -1) hx hb dX12_world_12 (by decide) ?_
  have hf := Option.some.inj hf
  subst hf
  exact ret_i F hr hk Z dX12_world_13
def f_X12_force_31 (n : Nat) : Nat → StT → Int32 → Int32 → Int32 → Int32 → Option (Int32 × StT)
  | 0, _, _, _, _, _ => none
  | k + 1, st, x1, x2, x3, x4 => if (st.1 36) ≤ x4 then (some (x3, st)) else ((f_X12_isOver n st x4 x1).bind fun q44 => (if q44.1 = 0 then (f_X12_force_31 n k q44.2 x1 x2 x3 (x4 + (1 : Int32))) else (if inB x4 60 = true then (if (((q44.2.2.1 54 (x4).toNatClampNeg) >>> (x2 &&& 31)) &&& (1 : Int32)) = 0 then (if inB x4 60 = true then (if inB x4 60 = true then (f_X12_force_31 n k (uA q44.2 54 x4 ((q44.2.2.1 54 (x4).toNatClampNeg) ||| ((1 : Int32) <<< (x2 &&& 31)))) x1 x2 (x3 + (1 : Int32)) (x4 + (1 : Int32))) else none) else none) else (f_X12_force_31 n k q44.2 x1 x2 x3 (x4 + (1 : Int32)))) else none)))
def f_X12_force (n : Nat) (st : StT) (x1 : Int32) (x2 : Int32) : Option (Int32 × StT) := if x1 < 0 then (some ((-1 : Int32), st)) else (if (st.1 36) ≤ x1 then (some ((-1 : Int32), st)) else (if x2 < 0 then (some ((-1 : Int32), st)) else (if x2 < (st.1 2) then (f_X12_force_31 n n st x1 x2 (0 : Int32) x1) else (some ((-1 : Int32), st)))))
theorem wd1330 : Cond.methodLink RX12 502 yX12_isOver ∈ Gw := gT7 (List.mem_of_getElem? (i := 191) rfl) rfl
theorem wd1331 : Cond.code yX12_isOver prog_14_method_70_code 4 (some .boolean) ∈ Gw := gT7 (List.mem_of_getElem? (i := 194) rfl) rfl
theorem wd1332 : Cond.instanceMethod yX12_isOver ∈ Gw := gT7 (List.mem_of_getElem? (i := 193) rfl) rfl
theorem wd1333 : Cond.selects RX12 yX12_isOver yX12_isOver ∈ Gw := gP6 (q := (yX12_isOver, 98)) (List.mem_of_getElem? (i := 1) rfl)
section
variable {p : Program} {l : Launch} {e : Env} {R : Room} {s : State} {m : MethodId} {args : Array Value} {below : List Frame} {meth : Method} {c : Code} {H : Heap} {locs : List Loc} {Q : State → Prop}
variable {cc : ByteArray} {nL pc : Nat} {ls : Array Slot} {rest : List Value} {D : va_G} {A : Nat → Prop} {cw : Cond} {ad : Nat → Nat} {cy : Nat → ClassId} {ee : EE} {st : StT} {own : String}
theorem krX12_502_X12_isOver {n : Nat} {a0 : Int32} {a1 : Int32} {q : (Int32 × StT)} (F : CallFix p m c cc nL s args (cw :: Gw) RX12) (K : va_K D vwCl (tyL cy) s) (E : EV ee A s s.heap) (hA : ∀ q, s.heap.size ≤ q → A q) (Z : ZG D (wM ad cy st) A s H locs) (hf : f_X12_isOver n st a0 a1 = some q) (hR : 1 ≤ R.frames ∧ 23 ≤ R.locals) (hl : ls.size = nL) (hst : (rest.map fun v => v.category).sum ≤ 8) (hd : decode cc pc = .ok (.invokevirtual 502, 3)) (kk : ∀ (H1 : Heap) (locs1 : List Loc), ZG D (wM ad cy q.2) A s H1 locs1 → W p l e R s m args below meth c H1 locs1 0 0 Q (F0 m (pc + 3) ls (.int q.1 :: rest))) : W p l e R s m args below meth c H locs 0 0 Q (F0 m pc ls (.int a1 :: .int a0 :: .ref (ad 0) :: rest)) :=
  call_V (q := (RX12, TX12, 98)) (n := 2) (As := [.int a0, .int a1]) (rv := some (.int q.1)) 0 12 F K E hA Z (c_X12_isOver (l := l) (D := D) (ad := ad) (cy := cy) (ee := ee) hf) ⟨wd1331, wd1330, wd1332, wd1333, wd1008⟩ (by decide +kernel) rfl rfl hR rfl hl hst hd kk
end
set_option maxRecDepth 100000 in
set_option maxHeartbeats 4000000 in
theorem b_X12_force_31 {p : Program} {l : Launch} {e : Env} {s : State} {m : MethodId} {args : Array Value} {below : List Frame} {meth : Method} {c : Code} {D : va_G} {A : Nat → Prop} {ad : Nat → Nat} {cy : Nat → ClassId} {ee : EE} {n : Nat} {res : (Int32 × StT)} (F : CallFix p m c cX12_force 5 s args (Cond.code yX12_force cX12_force 5 (some .int) :: Gw) yX12_force.cls) (hr : meth.sig.returnType = (some .int)) (hk : meth.locks = false) (K : va_K D vwCl (tyL cy) s) (E : EV ee A s s.heap) (hA : ∀ q, s.heap.size ≤ q → A q) : ∀ (k : Nat) (st : StT) (x1 : Int32) (x2 : Int32) (x3 : Int32) (x4 : Int32), f_X12_force_31 n k st x1 x2 x3 x4 = some res → ∀ (H : Heap) (locs : List Loc) (ls : Array Slot), ZG D (wM ad cy st) A s H locs → lv_has ls 5 [(0, .ref (ad 0)), (1, .int x1), (2, .int x2), (3, .int x3), (4, .int x4)] → W p l e { frames := 1, cells := 0, slots := 0, locals := 23 } s m args below meth c H locs 0 0 (MQ below (QC D (some (.int res.1)) (wM ad cy res.2) A) args s 0 0 A) (F0 m 31 ls []) := by
  have hx := F.1
  have hb := F.2.1
  intro k
  induction k with
  | zero =>
    intro st x1 x2 x3 x4 hf
    exact absurd hf (by simp [f_X12_force_31])
  | succ k ih =>
    intro st x1 x2 x3 x4 hf H locs ls Z hl
    rw [f_X12_force_31] at hf
    refine lv_iload hx hb dX12_force_31 (lv_at hl 4 rfl) ?_
    refine lv_aload_n hx hb dX12_force_33 rfl (lv_at hl 0 rfl) ?_
    refine gmX12_207 F K Z dX12_force_34 ?_
    refine lv_icmp_ge (tgt := 86) hx hb dX12_force_37 (by decide) (fun c37 => ?_) (fun c37 => ?_)
    · have hf := if_t c37 hf
      refine lv_iload_n hx hb dX12_force_86 rfl (lv_at hl 3 rfl) ?_
      have hf := Option.some.inj hf
      subst hf
      exact ret_i F hr hk Z dX12_force_87
    have hf := if_f c37 hf
    refine lv_aload_n hx hb dX12_force_40 rfl (lv_at hl 0 rfl) ?_
    refine lv_iload hx hb dX12_force_41 (lv_at hl 4 rfl) ?_
    refine lv_iload_n hx hb dX12_force_43 rfl (lv_at hl 1 rfl) ?_
    obtain ⟨q44, h44, hf⟩ := bind_some hf
    refine krX12_502_X12_isOver F K E hA Z h44 ⟨Nat.le_of_ble_eq_true rfl, Nat.le_of_ble_eq_true rfl⟩ hl.1 (Nat.le_of_ble_eq_true rfl) dX12_force_44 (fun H locs Z => ?_)
    refine lv_if_eq (tgt := 80) hx hb dX12_force_47 (by decide) (fun c47 => ?_) (fun c47 => ?_)
    · have hf := if_t c47 hf
      refine lv_iinc (v := (x4 + (1 : Int32))) (lv' := [(4, .int (x4 + (1 : Int32))), (0, .ref (ad 0)), (1, .int x1), (2, .int x2), (3, .int x3)]) hx hb dX12_force_80 hl (k := 4) rfl (congrArg (fun z => x4 + z) (by decide)) (by decide) rfl (fun ls hl => ?_)
      refine lv_goto (tgt := 31) hx hb dX12_force_83 (by decide) ?_
      exact ih _ _ _ _ _ hf _ _ _ Z (lv_sub hl [1, 2, 3, 4, 0] rfl)
    have hf := if_f c47 hf
    refine lv_aload_n hx hb dX12_force_50 rfl (lv_at hl 0 rfl) ?_
    refine gmX12_181 F K Z dX12_force_51 ?_
    refine lv_iload hx hb dX12_force_54 (lv_at hl 4 rfl) ?_
    obtain ⟨i56, hf⟩ := if_some hf
    refine ml55 F K Z i56 dX12_force_56 ?_
    refine lv_iload_n hx hb dX12_force_57 rfl (lv_at hl 2 rfl) ?_
    refine lv_ishr hx hb dX12_force_58 ?_
    refine lv_iconst (v := 1) hx hb dX12_force_59 (by decide) ?_
    refine lv_iand hx hb dX12_force_60 ?_
    refine lv_if_ne (tgt := 80) hx hb dX12_force_61 (by decide) (fun c61 => ?_) (fun c61 => ?_)
    · have hf := if_f c61 hf
      refine lv_iinc (v := (x4 + (1 : Int32))) (lv' := [(4, .int (x4 + (1 : Int32))), (0, .ref (ad 0)), (1, .int x1), (2, .int x2), (3, .int x3)]) hx hb dX12_force_80 hl (k := 4) rfl (congrArg (fun z => x4 + z) (by decide)) (by decide) rfl (fun ls hl => ?_)
      refine lv_goto (tgt := 31) hx hb dX12_force_83 (by decide) ?_
      exact ih _ _ _ _ _ hf _ _ _ Z (lv_sub hl [1, 2, 3, 4, 0] rfl)
    have hf := if_t c61 hf
    refine lv_aload_n hx hb dX12_force_64 rfl (lv_at hl 0 rfl) ?_
    refine gmX12_181 F K Z dX12_force_65 ?_
    refine lv_iload hx hb dX12_force_68 (lv_at hl 4 rfl) ?_
    refine lv_dup2_11 hx hb dX12_force_70 rfl rfl ?_
    obtain ⟨i71, hf⟩ := if_some hf
    refine ml55 F K Z i71 dX12_force_71 ?_
    refine lv_iconst (v := 1) hx hb dX12_force_72 (by decide) ?_
    refine lv_iload_n hx hb dX12_force_73 rfl (lv_at hl 2 rfl) ?_
    refine lv_ishl hx hb dX12_force_74 ?_
    refine lv_ior hx hb dX12_force_75 ?_
    obtain ⟨i76, hf⟩ := if_some hf
    refine ms55 F K Z i76 dX12_force_76 (fun H locs Z => ?_)
    refine lv_iinc (v := (x3 + (1 : Int32))) (lv' := [(3, .int (x3 + (1 : Int32))), (0, .ref (ad 0)), (1, .int x1), (2, .int x2), (4, .int x4)]) hx hb dX12_force_77 hl (k := 3) rfl (congrArg (fun z => x3 + z) (by decide)) (by decide) rfl (fun ls hl => ?_)
    refine lv_iinc (v := (x4 + (1 : Int32))) (lv' := [(4, .int (x4 + (1 : Int32))), (3, .int (x3 + (1 : Int32))), (0, .ref (ad 0)), (1, .int x1), (2, .int x2)]) hx hb dX12_force_80 hl (k := 4) rfl (congrArg (fun z => x4 + z) (by decide)) (by decide) rfl (fun ls hl => ?_)
    refine lv_goto (tgt := 31) hx hb dX12_force_83 (by decide) ?_
    exact ih _ _ _ _ _ hf _ _ _ Z (lv_sub hl [2, 3, 4, 1, 0] rfl)
set_option maxRecDepth 100000 in
set_option maxHeartbeats 4000000 in
theorem c_X12_force {l : Launch} {D : va_G} {ad : Nat → Nat} {cy : Nat → ClassId} {ee : EE} {n : Nat} {st : StT} {x1 : Int32} {x2 : Int32} {res : (Int32 × StT)} (hf : f_X12_force n st x1 x2 = some res) : CT l yX12_force cX12_force 5 (some .int) 1 23 D cy ee (wM ad cy st) (wM ad cy res.2) [.ref (ad 0), .int x1, .int x2] (some (.int res.1)) := by
  refine CT.of (by decide +kernel) (Nat.le_of_ble_eq_true rfl) ?_
  intro p e s m args below meth c A F hr hk K E hA Z ls hl
  have hl : lv_has ls 5 [(0, .ref (ad 0)), (1, .int x1), (2, .int x2)] := hl
  have hx := F.1
  have hb := F.2.1
  unfold f_X12_force at hf
  refine lv_iload_n hx hb dX12_force_0 rfl (lv_at hl 1 rfl) ?_
  refine lv_if_lt (tgt := 24) hx hb dX12_force_1 (by decide) (fun c1 => ?_) (fun c1 => ?_)
  · have hf := if_t c1 hf
    refine lv_iconst (v := -1) hx hb dX12_force_24 (by decide) ?_
    have hf := Option.some.inj hf
    subst hf
    exact ret_i F hr hk Z dX12_force_25
  have hf := if_f c1 hf
  refine lv_iload_n hx hb dX12_force_4 rfl (lv_at hl 1 rfl) ?_
  refine lv_aload_n hx hb dX12_force_5 rfl (lv_at hl 0 rfl) ?_
  refine gmX12_207 F K Z dX12_force_6 ?_
  refine lv_icmp_ge (tgt := 24) hx hb dX12_force_9 (by decide) (fun c9 => ?_) (fun c9 => ?_)
  · have hf := if_t c9 hf
    refine lv_iconst (v := -1) hx hb dX12_force_24 (by decide) ?_
    have hf := Option.some.inj hf
    subst hf
    exact ret_i F hr hk Z dX12_force_25
  have hf := if_f c9 hf
  refine lv_iload_n hx hb dX12_force_12 rfl (lv_at hl 2 rfl) ?_
  refine lv_if_lt (tgt := 24) hx hb dX12_force_13 (by decide) (fun c13 => ?_) (fun c13 => ?_)
  · have hf := if_t c13 hf
    refine lv_iconst (v := -1) hx hb dX12_force_24 (by decide) ?_
    have hf := Option.some.inj hf
    subst hf
    exact ret_i F hr hk Z dX12_force_25
  have hf := if_f c13 hf
  refine lv_iload_n hx hb dX12_force_16 rfl (lv_at hl 2 rfl) ?_
  refine lv_aload_n hx hb dX12_force_17 rfl (lv_at hl 0 rfl) ?_
  refine gmX12_280 F K Z dX12_force_18 ?_
  refine lv_icmp_lt (tgt := 26) hx hb dX12_force_21 (by decide) (fun c21 => ?_) (fun c21 => ?_)
  · have hf := if_t c21 hf
    refine lv_iconst (v := 0) hx hb dX12_force_26 (by decide) ?_
    refine lv_istore_n (lv' := [(3, .int (0 : Int32)), (0, .ref (ad 0)), (1, .int x1), (2, .int x2)]) hx hb dX12_force_27 rfl hl (by decide) rfl (fun ls hl => ?_)
    refine lv_iload_n hx hb dX12_force_28 rfl (lv_at hl 2 rfl) ?_
    refine lv_istore (lv' := [(4, .int x1), (3, .int (0 : Int32)), (0, .ref (ad 0)), (1, .int x1), (2, .int x2)]) hx hb dX12_force_29 hl (by decide) rfl (fun ls hl => ?_)
    exact b_X12_force_31 F hr hk K E hA _ _ _ _ _ _ hf _ _ _ Z (lv_sub hl [2, 3, 4, 1, 0] rfl)
  have hf := if_f c21 hf
  refine lv_iconst (v := -1) hx hb dX12_force_24 (by decide) ?_
  have hf := Option.some.inj hf
  subst hf
  exact ret_i F hr hk Z dX12_force_25
def f_X12_about_72 (n : Nat) : Nat → StT → Int32 → Int32 → Int32 → Option (Int32 × StT)
  | 0, _, _, _, _ => none
  | k + 1, st, x1, x4, x5 => if (st.1 36) ≤ x5 then (some (x4, st)) else ((f_X12_isOver n st x5 x1).bind fun q87 => (if q87.1 = 0 then (f_X12_about_72 n k q87.2 x1 (x4 + (0 : Int32)) (x5 + (1 : Int32))) else (f_X12_about_72 n k q87.2 x1 (x4 + (1 : Int32)) (x5 + (1 : Int32)))))
def f_X12_about_31 (n : Nat) (st : StT) (x1 : Int32) (x2 : Int32) (x3 : Int32) : Option (Int32 × StT) := if x2 = 0 then (if inB x1 60 = true then (some ((st.2.1 53 (x1).toNatClampNeg), st)) else none) else (if x2 = (1 : Int32) then (if inB x1 60 = true then (some ((((st.2.1 54 (x1).toNatClampNeg) >>> (x3 &&& 31)) &&& (1 : Int32)), st)) else none) else (if x2 = (2 : Int32) then (f_X12_about_72 n n st x1 (0 : Int32) x1) else (some ((-2 : Int32), st))))
def f_X12_about (n : Nat) (st : StT) (x1 : Int32) (x2 : Int32) (x3 : Int32) : Option (Int32 × StT) := if x1 < 0 then (some ((-1 : Int32), st)) else (if (st.1 36) ≤ x1 then (some ((-1 : Int32), st)) else (if x2 = (1 : Int32) then (if x3 < 0 then (some ((-1 : Int32), st)) else (if x3 < (st.1 2) then (f_X12_about_31 n st x1 x2 x3) else (some ((-1 : Int32), st)))) else (f_X12_about_31 n st x1 x2 x3)))
set_option maxRecDepth 100000 in
set_option maxHeartbeats 4000000 in
theorem b_X12_about_72 {p : Program} {l : Launch} {e : Env} {s : State} {m : MethodId} {args : Array Value} {below : List Frame} {meth : Method} {c : Code} {D : va_G} {A : Nat → Prop} {ad : Nat → Nat} {cy : Nat → ClassId} {ee : EE} {n : Nat} {res : (Int32 × StT)} (F : CallFix p m c cX12_about 6 s args (Cond.code yX12_about cX12_about 6 (some .int) :: Gw) yX12_about.cls) (hr : meth.sig.returnType = (some .int)) (hk : meth.locks = false) (K : va_K D vwCl (tyL cy) s) (E : EV ee A s s.heap) (hA : ∀ q, s.heap.size ≤ q → A q) : ∀ (k : Nat) (st : StT) (x1 : Int32) (x4 : Int32) (x5 : Int32), f_X12_about_72 n k st x1 x4 x5 = some res → ∀ (H : Heap) (locs : List Loc) (ls : Array Slot), ZG D (wM ad cy st) A s H locs → lv_has ls 6 [(0, .ref (ad 0)), (1, .int x1), (4, .int x4), (5, .int x5)] → W p l e { frames := 1, cells := 0, slots := 0, locals := 23 } s m args below meth c H locs 0 0 (MQ below (QC D (some (.int res.1)) (wM ad cy res.2) A) args s 0 0 A) (F0 m 72 ls []) := by
  have hx := F.1
  have hb := F.2.1
  intro k
  induction k with
  | zero =>
    intro st x1 x4 x5 hf
    exact absurd hf (by simp [f_X12_about_72])
  | succ k ih =>
    intro st x1 x4 x5 hf H locs ls Z hl
    rw [f_X12_about_72] at hf
    refine lv_iload hx hb dX12_about_72 (lv_at hl 3 rfl) ?_
    refine lv_aload_n hx hb dX12_about_74 rfl (lv_at hl 0 rfl) ?_
    refine gmX12_207 F K Z dX12_about_75 ?_
    refine lv_icmp_ge (tgt := 107) hx hb dX12_about_78 (by decide) (fun c78 => ?_) (fun c78 => ?_)
    · have hf := if_t c78 hf
      refine lv_iload hx hb dX12_about_107 (lv_at hl 2 rfl) ?_
      have hf := Option.some.inj hf
      subst hf
      exact ret_i F hr hk Z dX12_about_109
    have hf := if_f c78 hf
    refine lv_iload hx hb dX12_about_81 (lv_at hl 2 rfl) ?_
    refine lv_aload_n hx hb dX12_about_83 rfl (lv_at hl 0 rfl) ?_
    refine lv_iload hx hb dX12_about_84 (lv_at hl 3 rfl) ?_
    refine lv_iload_n hx hb dX12_about_86 rfl (lv_at hl 1 rfl) ?_
    obtain ⟨q87, h87, hf⟩ := bind_some hf
    refine krX12_502_X12_isOver F K E hA Z h87 ⟨Nat.le_of_ble_eq_true rfl, Nat.le_of_ble_eq_true rfl⟩ hl.1 (Nat.le_of_ble_eq_true rfl) dX12_about_87 (fun H locs Z => ?_)
    refine lv_if_eq (tgt := 97) hx hb dX12_about_90 (by decide) (fun c90 => ?_) (fun c90 => ?_)
    · have hf := if_t c90 hf
      refine lv_iconst (v := 0) hx hb dX12_about_97 (by decide) ?_
      refine lv_iadd hx hb dX12_about_98 ?_
      refine lv_istore (lv' := [(4, .int (x4 + (0 : Int32))), (0, .ref (ad 0)), (1, .int x1), (5, .int x5)]) hx hb dX12_about_99 hl (by decide) rfl (fun ls hl => ?_)
      refine lv_iinc (v := (x5 + (1 : Int32))) (lv' := [(5, .int (x5 + (1 : Int32))), (4, .int (x4 + (0 : Int32))), (0, .ref (ad 0)), (1, .int x1)]) hx hb dX12_about_101 hl (k := 3) rfl (congrArg (fun z => x5 + z) (by decide)) (by decide) rfl (fun ls hl => ?_)
      refine lv_goto (tgt := 72) hx hb dX12_about_104 (by decide) ?_
      exact ih _ _ _ _ hf _ _ _ Z (lv_sub hl [2, 3, 1, 0] rfl)
    have hf := if_f c90 hf
    refine lv_iconst (v := 1) hx hb dX12_about_93 (by decide) ?_
    refine lv_goto (tgt := 98) hx hb dX12_about_94 (by decide) ?_
    refine lv_iadd hx hb dX12_about_98 ?_
    refine lv_istore (lv' := [(4, .int (x4 + (1 : Int32))), (0, .ref (ad 0)), (1, .int x1), (5, .int x5)]) hx hb dX12_about_99 hl (by decide) rfl (fun ls hl => ?_)
    refine lv_iinc (v := (x5 + (1 : Int32))) (lv' := [(5, .int (x5 + (1 : Int32))), (4, .int (x4 + (1 : Int32))), (0, .ref (ad 0)), (1, .int x1)]) hx hb dX12_about_101 hl (k := 3) rfl (congrArg (fun z => x5 + z) (by decide)) (by decide) rfl (fun ls hl => ?_)
    refine lv_goto (tgt := 72) hx hb dX12_about_104 (by decide) ?_
    exact ih _ _ _ _ hf _ _ _ Z (lv_sub hl [2, 3, 1, 0] rfl)
set_option maxRecDepth 100000 in
set_option maxHeartbeats 4000000 in
theorem b_X12_about_31 {p : Program} {l : Launch} {e : Env} {s : State} {m : MethodId} {args : Array Value} {below : List Frame} {meth : Method} {c : Code} {D : va_G} {A : Nat → Prop} {ad : Nat → Nat} {cy : Nat → ClassId} {ee : EE} {n : Nat} {res : (Int32 × StT)} (F : CallFix p m c cX12_about 6 s args (Cond.code yX12_about cX12_about 6 (some .int) :: Gw) yX12_about.cls) (hr : meth.sig.returnType = (some .int)) (hk : meth.locks = false) (K : va_K D vwCl (tyL cy) s) (E : EV ee A s s.heap) (hA : ∀ q, s.heap.size ≤ q → A q) : ∀ (st : StT) (x1 : Int32) (x2 : Int32) (x3 : Int32), f_X12_about_31 n st x1 x2 x3 = some res → ∀ (H : Heap) (locs : List Loc) (ls : Array Slot), ZG D (wM ad cy st) A s H locs → lv_has ls 6 [(0, .ref (ad 0)), (1, .int x1), (2, .int x2), (3, .int x3)] → W p l e { frames := 1, cells := 0, slots := 0, locals := 23 } s m args below meth c H locs 0 0 (MQ below (QC D (some (.int res.1)) (wM ad cy res.2) A) args s 0 0 A) (F0 m 31 ls []) := by
  have hx := F.1
  have hb := F.2.1
  intro st x1 x2 x3 hf H locs ls Z hl
  unfold f_X12_about_31 at hf
  refine lv_iload_n hx hb dX12_about_31 rfl (lv_at hl 2 rfl) ?_
  refine lv_if_ne (tgt := 42) hx hb dX12_about_32 (by decide) (fun c32 => ?_) (fun c32 => ?_)
  · have hf := if_f c32 hf
    refine lv_iload_n hx hb dX12_about_42 rfl (lv_at hl 2 rfl) ?_
    refine lv_iconst (v := 1) hx hb dX12_about_43 (by decide) ?_
    refine lv_icmp_ne (tgt := 58) hx hb dX12_about_44 (by decide) (fun c44 => ?_) (fun c44 => ?_)
    · have hf := if_f c44 hf
      refine lv_iload_n hx hb dX12_about_58 rfl (lv_at hl 2 rfl) ?_
      refine lv_iconst (v := 2) hx hb dX12_about_59 (by decide) ?_
      refine lv_icmp_eq (tgt := 66) hx hb dX12_about_60 (by decide) (fun c60 => ?_) (fun c60 => ?_)
      · have hf := if_t c60 hf
        refine lv_iconst (v := 0) hx hb dX12_about_66 (by decide) ?_
        refine lv_istore (lv' := [(4, .int (0 : Int32)), (0, .ref (ad 0)), (1, .int x1), (2, .int x2), (3, .int x3)]) hx hb dX12_about_67 hl (by decide) rfl (fun ls hl => ?_)
        refine lv_iload_n hx hb dX12_about_69 rfl (lv_at hl 2 rfl) ?_
        refine lv_istore (lv' := [(5, .int x1), (4, .int (0 : Int32)), (0, .ref (ad 0)), (1, .int x1), (2, .int x2), (3, .int x3)]) hx hb dX12_about_70 hl (by decide) rfl (fun ls hl => ?_)
        exact b_X12_about_72 F hr hk K E hA _ _ _ _ _ hf _ _ _ Z (lv_sub hl [2, 3, 1, 0] rfl)
      have hf := if_f c60 hf
      refine lv_bipush (v := -2) hx hb dX12_about_63 (by decide) ?_
      have hf := Option.some.inj hf
      subst hf
      exact ret_i F hr hk Z dX12_about_65
    have hf := if_t c44 hf
    refine lv_aload_n hx hb dX12_about_47 rfl (lv_at hl 0 rfl) ?_
    refine gmX12_181 F K Z dX12_about_48 ?_
    refine lv_iload_n hx hb dX12_about_51 rfl (lv_at hl 1 rfl) ?_
    obtain ⟨i52, hf⟩ := if_some hf
    refine ml55 F K Z i52 dX12_about_52 ?_
    refine lv_iload_n hx hb dX12_about_53 rfl (lv_at hl 3 rfl) ?_
    refine lv_ishr hx hb dX12_about_54 ?_
    refine lv_iconst (v := 1) hx hb dX12_about_55 (by decide) ?_
    refine lv_iand hx hb dX12_about_56 ?_
    have hf := Option.some.inj hf
    subst hf
    exact ret_i F hr hk Z dX12_about_57
  have hf := if_t c32 hf
  refine lv_aload_n hx hb dX12_about_35 rfl (lv_at hl 0 rfl) ?_
  refine gmX12_178 F K Z dX12_about_36 ?_
  refine lv_iload_n hx hb dX12_about_39 rfl (lv_at hl 1 rfl) ?_
  obtain ⟨i40, hf⟩ := if_some hf
  refine ml54 F K Z i40 dX12_about_40 ?_
  have hf := Option.some.inj hf
  subst hf
  exact ret_i F hr hk Z dX12_about_41
set_option maxRecDepth 100000 in
set_option maxHeartbeats 4000000 in
theorem c_X12_about {l : Launch} {D : va_G} {ad : Nat → Nat} {cy : Nat → ClassId} {ee : EE} {n : Nat} {st : StT} {x1 : Int32} {x2 : Int32} {x3 : Int32} {res : (Int32 × StT)} (hf : f_X12_about n st x1 x2 x3 = some res) : CT l yX12_about cX12_about 6 (some .int) 1 23 D cy ee (wM ad cy st) (wM ad cy res.2) [.ref (ad 0), .int x1, .int x2, .int x3] (some (.int res.1)) := by
  refine CT.of (by decide +kernel) (Nat.le_of_ble_eq_true rfl) ?_
  intro p e s m args below meth c A F hr hk K E hA Z ls hl
  have hl : lv_has ls 6 [(0, .ref (ad 0)), (1, .int x1), (2, .int x2), (3, .int x3)] := hl
  have hx := F.1
  have hb := F.2.1
  unfold f_X12_about at hf
  refine lv_iload_n hx hb dX12_about_0 rfl (lv_at hl 1 rfl) ?_
  refine lv_if_lt (tgt := 29) hx hb dX12_about_1 (by decide) (fun c1 => ?_) (fun c1 => ?_)
  · have hf := if_t c1 hf
    refine lv_iconst (v := -1) hx hb dX12_about_29 (by decide) ?_
    have hf := Option.some.inj hf
    subst hf
    exact ret_i F hr hk Z dX12_about_30
  have hf := if_f c1 hf
  refine lv_iload_n hx hb dX12_about_4 rfl (lv_at hl 1 rfl) ?_
  refine lv_aload_n hx hb dX12_about_5 rfl (lv_at hl 0 rfl) ?_
  refine gmX12_207 F K Z dX12_about_6 ?_
  refine lv_icmp_ge (tgt := 29) hx hb dX12_about_9 (by decide) (fun c9 => ?_) (fun c9 => ?_)
  · have hf := if_t c9 hf
    refine lv_iconst (v := -1) hx hb dX12_about_29 (by decide) ?_
    have hf := Option.some.inj hf
    subst hf
    exact ret_i F hr hk Z dX12_about_30
  have hf := if_f c9 hf
  refine lv_iload_n hx hb dX12_about_12 rfl (lv_at hl 2 rfl) ?_
  refine lv_iconst (v := 1) hx hb dX12_about_13 (by decide) ?_
  refine lv_icmp_ne (tgt := 31) hx hb dX12_about_14 (by decide) (fun c14 => ?_) (fun c14 => ?_)
  · have hf := if_f c14 hf
    exact b_X12_about_31 F hr hk K E hA _ _ _ _ hf _ _ _ Z hl
  have hf := if_t c14 hf
  refine lv_iload_n hx hb dX12_about_17 rfl (lv_at hl 3 rfl) ?_
  refine lv_if_lt (tgt := 29) hx hb dX12_about_18 (by decide) (fun c18 => ?_) (fun c18 => ?_)
  · have hf := if_t c18 hf
    refine lv_iconst (v := -1) hx hb dX12_about_29 (by decide) ?_
    have hf := Option.some.inj hf
    subst hf
    exact ret_i F hr hk Z dX12_about_30
  have hf := if_f c18 hf
  refine lv_iload_n hx hb dX12_about_21 rfl (lv_at hl 3 rfl) ?_
  refine lv_aload_n hx hb dX12_about_22 rfl (lv_at hl 0 rfl) ?_
  refine gmX12_280 F K Z dX12_about_23 ?_
  refine lv_icmp_lt (tgt := 31) hx hb dX12_about_26 (by decide) (fun c26 => ?_) (fun c26 => ?_)
  · have hf := if_t c26 hf
    exact b_X12_about_31 F hr hk K E hA _ _ _ _ hf _ _ _ Z hl
  have hf := if_f c26 hf
  refine lv_iconst (v := -1) hx hb dX12_about_29 (by decide) ?_
  have hf := Option.some.inj hf
  subst hf
  exact ret_i F hr hk Z dX12_about_30
def f_X12_refuted_151 (n : Nat) (k26 : StT → Int32 → Option (Int32 × StT)) : Nat → StT → Int32 → Int32 → Int32 → Int32 → Int32 → Option (Int32 × StT)
  | 0, _, _, _, _, _, _ => none
  | k + 1, st, x1, x3, x4, x5, x6 => if x6 < 0 then (k26 st (x1 + x4)) else (if inB x5 2100 = true then (if inB x5 2100 = true then (if inB x6 2100 = true then (f_X12_refuted_151 n k26 k (uA (uA st 56 x5 x6) 57 x5 x3) x1 x3 x4 (x5 + (-1 : Int32)) ((uA (uA st 56 x5 x6) 57 x5 x3).2.1 31 (x6).toNatClampNeg)) else none) else none) else none)
def f_X12_refuted_115 (n : Nat) (k26 : StT → Int32 → Option (Int32 × StT)) : Nat → StT → Int32 → Int32 → Int32 → Int32 → Int32 → Option (Int32 × StT)
  | 0, _, _, _, _, _, _ => none
  | k + 1, st, x1, x2, x3, x4, x5 => if x5 < 0 then (if inB x2 2100 = true then (f_X12_refuted_151 n k26 n st x1 x3 x4 ((x1 + x4) - (1 : Int32)) (st.2.1 29 (x2).toNatClampNeg)) else none) else (if inB x5 2100 = true then (f_X12_refuted_115 n k26 k st x1 x2 x3 (x4 + (1 : Int32)) (st.2.1 31 (x5).toNatClampNeg)) else none)
def f_X12_refuted_102 (n : Nat) (k26 : StT → Int32 → Option (Int32 × StT)) (st : StT) (x1 : Int32) (x2 : Int32) (x3 : Int32) (y0 : Int32) (y1 : Int32) (y2 : Int32) : Option (Int32 × StT) := if inB y2 60 = true then (if inB x2 2100 = true then (f_X12_refuted_115 n k26 n (uA st 54 y2 (y1 ||| y0)) x1 x2 x3 (0 : Int32) ((uA st 54 y2 (y1 ||| y0)).2.1 29 (x2).toNatClampNeg)) else none) else none
def f_X12_refuted_26 (n : Nat) : Nat → StT → Int32 → Option (Int32 × StT)
  | 0, _, _ => none
  | k + 1, st, x1 => if x1 ≤ 0 then (some ((st.1 36), st)) else (if inB (x1 + (-1 : Int32)) 2100 = true then (if inB (x1 + (-1 : Int32)) 2100 = true then (if inB (st.1 36) 60 = true then (if inB (st.2.1 56 ((x1 + (-1 : Int32))).toNatClampNeg) 2100 = true then (if inB (st.1 36) 60 = true then (if 0 ≤ ((uA (uF st 36 ((st.1 36) + (1 : Int32))) 53 (st.1 36) ((uF st 36 ((st.1 36) + (1 : Int32))).2.1 57 ((x1 + (-1 : Int32))).toNatClampNeg)).2.1 53 ((st.1 36)).toNatClampNeg) then (if inB (st.1 36) 60 = true then (if inB ((uA (uF st 36 ((st.1 36) + (1 : Int32))) 53 (st.1 36) ((uF st 36 ((st.1 36) + (1 : Int32))).2.1 57 ((x1 + (-1 : Int32))).toNatClampNeg)).2.1 53 ((st.1 36)).toNatClampNeg) 60 = true then (f_X12_refuted_102 n (f_X12_refuted_26 n k) (uA (uF st 36 ((st.1 36) + (1 : Int32))) 53 (st.1 36) ((uF st 36 ((st.1 36) + (1 : Int32))).2.1 57 ((x1 + (-1 : Int32))).toNatClampNeg)) (x1 + (-1 : Int32)) (st.2.1 56 ((x1 + (-1 : Int32))).toNatClampNeg) (st.1 36) ((uA (uF st 36 ((st.1 36) + (1 : Int32))) 53 (st.1 36) ((uF st 36 ((st.1 36) + (1 : Int32))).2.1 57 ((x1 + (-1 : Int32))).toNatClampNeg)).2.1 54 (((uA (uF st 36 ((st.1 36) + (1 : Int32))) 53 (st.1 36) ((uF st 36 ((st.1 36) + (1 : Int32))).2.1 57 ((x1 + (-1 : Int32))).toNatClampNeg)).2.1 53 ((st.1 36)).toNatClampNeg)).toNatClampNeg) ((uA (uF st 36 ((st.1 36) + (1 : Int32))) 53 (st.1 36) ((uF st 36 ((st.1 36) + (1 : Int32))).2.1 57 ((x1 + (-1 : Int32))).toNatClampNeg)).2.1 32 ((st.2.1 56 ((x1 + (-1 : Int32))).toNatClampNeg)).toNatClampNeg) (st.1 36)) else none) else none) else (f_X12_refuted_102 n (f_X12_refuted_26 n k) (uA (uF st 36 ((st.1 36) + (1 : Int32))) 53 (st.1 36) ((uF st 36 ((st.1 36) + (1 : Int32))).2.1 57 ((x1 + (-1 : Int32))).toNatClampNeg)) (x1 + (-1 : Int32)) (st.2.1 56 ((x1 + (-1 : Int32))).toNatClampNeg) (st.1 36) (0 : Int32) ((uA (uF st 36 ((st.1 36) + (1 : Int32))) 53 (st.1 36) ((uF st 36 ((st.1 36) + (1 : Int32))).2.1 57 ((x1 + (-1 : Int32))).toNatClampNeg)).2.1 32 ((st.2.1 56 ((x1 + (-1 : Int32))).toNatClampNeg)).toNatClampNeg) (st.1 36))) else none) else none) else none) else none) else none)
def f_X12_refuted (n : Nat) (st : StT) : Option (Int32 × StT) := if inB (0 : Int32) 2100 = true then (if inB (0 : Int32) 2100 = true then (f_X12_refuted_26 n n (uA (uA (uF st 36 (0 : Int32)) 56 (0 : Int32) ((uF st 36 (0 : Int32)).1 29)) 57 (0 : Int32) (-1 : Int32)) (1 : Int32)) else none) else none
theorem wd1334 : Cond.fieldLink RX12 192 "WorldProverModel" "walk" "[I" ∈ Gw := gT6 (List.mem_of_getElem? (i := 152) rfl) rfl
theorem wd1335 : Cond.fieldLink RX12 505 "WorldProverModel" "failedWorld" "I" ∈ Gw := gT6 (List.mem_of_getElem? (i := 116) rfl) rfl
theorem wd1336 : Cond.fieldLink RX12 195 "WorldProverModel" "walkUp" "[I" ∈ Gw := gT6 (List.mem_of_getElem? (i := 153) rfl) rfl
section
variable {p : Program} {l : Launch} {e : Env} {R : Room} {s : State} {m : MethodId} {args : Array Value} {below : List Frame} {meth : Method} {c : Code} {H : Heap} {locs : List Loc} {Q : State → Prop}
variable {cc : ByteArray} {nL pc : Nat} {ls : Array Slot} {rest : List Value} {D : va_G} {A : Nat → Prop} {cw : Cond} {ad : Nat → Nat} {cy : Nat → ClassId} {ee : EE} {st : StT} {own : String}
theorem gmX12_192 (F : CallFix p m c cc nL s args (cw :: Gw) RX12) (K : va_K D vwCl (tyL cy) s) (Z : ZG D (wM ad cy st) A s H locs) (hd : decode cc pc = .ok (.getfield 192, 3)) (kk : W p l e R s m args below meth c H locs 0 0 Q (F0 m (pc + 3) ls (.ref (ad 58) :: rest))) : W p l e R s m args below meth c H locs 0 0 Q (F0 m pc ls (.ref (ad 0) :: rest)) :=
  va_get (D := D) (ci := 12) (C := RX12) (T := TX12) (N := 98) F.1 F.2.1 F.2.2.2.2 (fun w h => List.mem_cons_of_mem _ (inG_X12 w h)) F.2.2.2.1 K Z.1 0 rfl rfl 94 (by decide) (F.2.2.2.2 _ (List.mem_cons_of_mem _ wd1334)) (fun _ h => h) rfl hd kk
theorem gmX12_505 (F : CallFix p m c cc nL s args (cw :: Gw) RX12) (K : va_K D vwCl (tyL cy) s) (Z : ZG D (wM ad cy st) A s H locs) (hd : decode cc pc = .ok (.getfield 505, 3)) (kk : W p l e R s m args below meth c H locs 0 0 Q (F0 m (pc + 3) ls (.int (st.1 29) :: rest))) : W p l e R s m args below meth c H locs 0 0 Q (F0 m pc ls (.ref (ad 0) :: rest)) :=
  va_get (D := D) (ci := 12) (C := RX12) (T := TX12) (N := 98) F.1 F.2.1 F.2.2.2.2 (fun w h => List.mem_cons_of_mem _ (inG_X12 w h)) F.2.2.2.1 K Z.1 0 rfl rfl 58 (by decide) (F.2.2.2.2 _ (List.mem_cons_of_mem _ wd1335)) (fun _ h => h) rfl hd kk
theorem ms58 {i : Int32} {v : Int32} (F : CallFix p m c cc nL s args (cw :: Gw) own) (K : va_K D vwCl (tyL cy) s) (Z : ZG D (wM ad cy st) A s H locs) (hi : inB i 2100 = true) (hd : decode cc pc = .ok (.iastore, 1)) (kk : ∀ (H1 : Heap) (locs1 : List Loc), ZG D (wM ad cy (uA st 56 i v)) A s H1 locs1 → W p l e R s m args below meth c H1 locs1 0 0 Q (F0 m (pc + 1) ls rest)) : W p l e R s m args below meth c H locs 0 0 Q (F0 m pc ls (.int v :: .int i :: .ref (ad 58) :: rest)) :=
  va_iast F.1 F.2.1 K Z.1 Z.2.1 Z.2.2 58 1 rfl rfl (inB_vp hi) hd (fun H1 locs1 hP hD hS => kk H1 locs1 ⟨hP, hD, hS⟩)
theorem ml58 {i : Int32} (F : CallFix p m c cc nL s args (cw :: Gw) own) (K : va_K D vwCl (tyL cy) s) (Z : ZG D (wM ad cy st) A s H locs) (hi : inB i 2100 = true) (hd : decode cc pc = .ok (.iaload, 1)) (kk : W p l e R s m args below meth c H locs 0 0 Q (F0 m (pc + 1) ls (.int (st.2.1 56 i.toNatClampNeg) :: rest))) : W p l e R s m args below meth c H locs 0 0 Q (F0 m pc ls (.int i :: .ref (ad 58) :: rest)) :=
  va_iald F.1 F.2.1 K Z.1 58 1 rfl rfl (inB_vp hi) hd kk
theorem ml32 {i : Int32} (F : CallFix p m c cc nL s args (cw :: Gw) own) (K : va_K D vwCl (tyL cy) s) (Z : ZG D (wM ad cy st) A s H locs) (hi : inB i 2100 = true) (hd : decode cc pc = .ok (.iaload, 1)) (kk : W p l e R s m args below meth c H locs 0 0 Q (F0 m (pc + 1) ls (.int (st.2.1 31 i.toNatClampNeg) :: rest))) : W p l e R s m args below meth c H locs 0 0 Q (F0 m pc ls (.int i :: .ref (ad 32) :: rest)) :=
  va_iald F.1 F.2.1 K Z.1 32 1 rfl rfl (inB_vp hi) hd kk
theorem gmX12_195 (F : CallFix p m c cc nL s args (cw :: Gw) RX12) (K : va_K D vwCl (tyL cy) s) (Z : ZG D (wM ad cy st) A s H locs) (hd : decode cc pc = .ok (.getfield 195, 3)) (kk : W p l e R s m args below meth c H locs 0 0 Q (F0 m (pc + 3) ls (.ref (ad 59) :: rest))) : W p l e R s m args below meth c H locs 0 0 Q (F0 m pc ls (.ref (ad 0) :: rest)) :=
  va_get (D := D) (ci := 12) (C := RX12) (T := TX12) (N := 98) F.1 F.2.1 F.2.2.2.2 (fun w h => List.mem_cons_of_mem _ (inG_X12 w h)) F.2.2.2.1 K Z.1 0 rfl rfl 95 (by decide) (F.2.2.2.2 _ (List.mem_cons_of_mem _ wd1336)) (fun _ h => h) rfl hd kk
theorem ms59 {i : Int32} {v : Int32} (F : CallFix p m c cc nL s args (cw :: Gw) own) (K : va_K D vwCl (tyL cy) s) (Z : ZG D (wM ad cy st) A s H locs) (hi : inB i 2100 = true) (hd : decode cc pc = .ok (.iastore, 1)) (kk : ∀ (H1 : Heap) (locs1 : List Loc), ZG D (wM ad cy (uA st 57 i v)) A s H1 locs1 → W p l e R s m args below meth c H1 locs1 0 0 Q (F0 m (pc + 1) ls rest)) : W p l e R s m args below meth c H locs 0 0 Q (F0 m pc ls (.int v :: .int i :: .ref (ad 59) :: rest)) :=
  va_iast F.1 F.2.1 K Z.1 Z.2.1 Z.2.2 59 1 rfl rfl (inB_vp hi) hd (fun H1 locs1 hP hD hS => kk H1 locs1 ⟨hP, hD, hS⟩)
theorem ml59 {i : Int32} (F : CallFix p m c cc nL s args (cw :: Gw) own) (K : va_K D vwCl (tyL cy) s) (Z : ZG D (wM ad cy st) A s H locs) (hi : inB i 2100 = true) (hd : decode cc pc = .ok (.iaload, 1)) (kk : W p l e R s m args below meth c H locs 0 0 Q (F0 m (pc + 1) ls (.int (st.2.1 57 i.toNatClampNeg) :: rest))) : W p l e R s m args below meth c H locs 0 0 Q (F0 m pc ls (.int i :: .ref (ad 59) :: rest)) :=
  va_iald F.1 F.2.1 K Z.1 59 1 rfl rfl (inB_vp hi) hd kk
end
set_option maxRecDepth 100000 in
set_option maxHeartbeats 4000000 in
theorem b_X12_refuted_151 {p : Program} {l : Launch} {e : Env} {s : State} {m : MethodId} {args : Array Value} {below : List Frame} {meth : Method} {c : Code} {D : va_G} {A : Nat → Prop} {ad : Nat → Nat} {cy : Nat → ClassId} {ee : EE} {n : Nat} {res : (Int32 × StT)} (F : CallFix p m c cX12_refuted 7 s args (Cond.code yX12_refuted cX12_refuted 7 (some .int) :: Gw) yX12_refuted.cls) (hr : meth.sig.returnType = (some .int)) (hk : meth.locks = false) (K : va_K D vwCl (tyL cy) s) (E : EV ee A s s.heap) (hA : ∀ q, s.heap.size ≤ q → A q) {k26 : StT → Int32 → Option (Int32 × StT)} (hk26 : ∀ (st : StT) (x1 : Int32), k26 st x1 = some res → ∀ (H : Heap) (locs : List Loc) (ls : Array Slot), ZG D (wM ad cy st) A s H locs → lv_has ls 7 [(0, .ref (ad 0)), (1, .int x1)] → W p l e { frames := 0, cells := 0, slots := 0, locals := 0 } s m args below meth c H locs 0 0 (MQ below (QC D (some (.int res.1)) (wM ad cy res.2) A) args s 0 0 A) (F0 m 26 ls [])) : ∀ (k : Nat) (st : StT) (x1 : Int32) (x3 : Int32) (x4 : Int32) (x5 : Int32) (x6 : Int32), f_X12_refuted_151 n k26 k st x1 x3 x4 x5 x6 = some res → ∀ (H : Heap) (locs : List Loc) (ls : Array Slot), ZG D (wM ad cy st) A s H locs → lv_has ls 7 [(0, .ref (ad 0)), (1, .int x1), (3, .int x3), (4, .int x4), (5, .int x5), (6, .int x6)] → W p l e { frames := 0, cells := 0, slots := 0, locals := 0 } s m args below meth c H locs 0 0 (MQ below (QC D (some (.int res.1)) (wM ad cy res.2) A) args s 0 0 A) (F0 m 151 ls []) := by
  have hx := F.1
  have hb := F.2.1
  intro k
  induction k with
  | zero =>
    intro st x1 x3 x4 x5 x6 hf
    exact absurd hf (by simp [f_X12_refuted_151])
  | succ k ih =>
    intro st x1 x3 x4 x5 x6 hf H locs ls Z hl
    rw [f_X12_refuted_151] at hf
    refine lv_iload hx hb dX12_refuted_151 (lv_at hl 5 rfl) ?_
    refine lv_if_lt (tgt := 188) hx hb dX12_refuted_153 (by decide) (fun c153 => ?_) (fun c153 => ?_)
    · have hf := if_t c153 hf
      refine lv_iload_n hx hb dX12_refuted_188 rfl (lv_at hl 1 rfl) ?_
      refine lv_iload hx hb dX12_refuted_189 (lv_at hl 3 rfl) ?_
      refine lv_iadd hx hb dX12_refuted_191 ?_
      refine lv_istore_n (lv' := [(1, .int (x1 + x4)), (0, .ref (ad 0)), (3, .int x3), (4, .int x4), (5, .int x5), (6, .int x6)]) hx hb dX12_refuted_192 rfl hl (by decide) rfl (fun ls hl => ?_)
      refine lv_goto (tgt := 26) hx hb dX12_refuted_193 (by decide) ?_
      exact hk26 _ _ hf _ _ _ Z (lv_sub hl [1, 0] rfl)
    have hf := if_f c153 hf
    refine lv_aload_n hx hb dX12_refuted_156 rfl (lv_at hl 0 rfl) ?_
    refine gmX12_192 F K Z dX12_refuted_157 ?_
    refine lv_iload hx hb dX12_refuted_160 (lv_at hl 4 rfl) ?_
    refine lv_iload hx hb dX12_refuted_162 (lv_at hl 5 rfl) ?_
    obtain ⟨i164, hf⟩ := if_some hf
    refine ms58 F K Z i164 dX12_refuted_164 (fun H locs Z => ?_)
    refine lv_aload_n hx hb dX12_refuted_165 rfl (lv_at hl 0 rfl) ?_
    refine gmX12_195 F K Z dX12_refuted_166 ?_
    refine lv_iload hx hb dX12_refuted_169 (lv_at hl 4 rfl) ?_
    refine lv_iload_n hx hb dX12_refuted_171 rfl (lv_at hl 2 rfl) ?_
    obtain ⟨i172, hf⟩ := if_some hf
    refine ms59 F K Z i172 dX12_refuted_172 (fun H locs Z => ?_)
    refine lv_iinc (v := (x5 + (-1 : Int32))) (lv' := [(5, .int (x5 + (-1 : Int32))), (0, .ref (ad 0)), (1, .int x1), (3, .int x3), (4, .int x4), (6, .int x6)]) hx hb dX12_refuted_173 hl (k := 4) rfl (congrArg (fun z => x5 + z) (by decide)) (by decide) rfl (fun ls hl => ?_)
    refine lv_aload_n hx hb dX12_refuted_176 rfl (lv_at hl 1 rfl) ?_
    refine gmX12_112 F K Z dX12_refuted_177 ?_
    refine lv_iload hx hb dX12_refuted_180 (lv_at hl 5 rfl) ?_
    obtain ⟨i182, hf⟩ := if_some hf
    refine ml32 F K Z i182 dX12_refuted_182 ?_
    refine lv_istore (lv' := [(6, .int ((uA (uA st 56 x5 x6) 57 x5 x3).2.1 31 (x6).toNatClampNeg)), (5, .int (x5 + (-1 : Int32))), (0, .ref (ad 0)), (1, .int x1), (3, .int x3), (4, .int x4)]) hx hb dX12_refuted_183 hl (by decide) rfl (fun ls hl => ?_)
    refine lv_goto (tgt := 151) hx hb dX12_refuted_185 (by decide) ?_
    exact ih _ _ _ _ _ _ hf _ _ _ Z (lv_sub hl [2, 3, 4, 5, 1, 0] rfl)
set_option maxRecDepth 100000 in
set_option maxHeartbeats 4000000 in
theorem b_X12_refuted_115 {p : Program} {l : Launch} {e : Env} {s : State} {m : MethodId} {args : Array Value} {below : List Frame} {meth : Method} {c : Code} {D : va_G} {A : Nat → Prop} {ad : Nat → Nat} {cy : Nat → ClassId} {ee : EE} {n : Nat} {res : (Int32 × StT)} (F : CallFix p m c cX12_refuted 7 s args (Cond.code yX12_refuted cX12_refuted 7 (some .int) :: Gw) yX12_refuted.cls) (hr : meth.sig.returnType = (some .int)) (hk : meth.locks = false) (K : va_K D vwCl (tyL cy) s) (E : EV ee A s s.heap) (hA : ∀ q, s.heap.size ≤ q → A q) {k26 : StT → Int32 → Option (Int32 × StT)} (hk26 : ∀ (st : StT) (x1 : Int32), k26 st x1 = some res → ∀ (H : Heap) (locs : List Loc) (ls : Array Slot), ZG D (wM ad cy st) A s H locs → lv_has ls 7 [(0, .ref (ad 0)), (1, .int x1)] → W p l e { frames := 0, cells := 0, slots := 0, locals := 0 } s m args below meth c H locs 0 0 (MQ below (QC D (some (.int res.1)) (wM ad cy res.2) A) args s 0 0 A) (F0 m 26 ls [])) : ∀ (k : Nat) (st : StT) (x1 : Int32) (x2 : Int32) (x3 : Int32) (x4 : Int32) (x5 : Int32), f_X12_refuted_115 n k26 k st x1 x2 x3 x4 x5 = some res → ∀ (H : Heap) (locs : List Loc) (ls : Array Slot), ZG D (wM ad cy st) A s H locs → lv_has ls 7 [(0, .ref (ad 0)), (1, .int x1), (2, .int x2), (3, .int x3), (4, .int x4), (5, .int x5)] → W p l e { frames := 0, cells := 0, slots := 0, locals := 0 } s m args below meth c H locs 0 0 (MQ below (QC D (some (.int res.1)) (wM ad cy res.2) A) args s 0 0 A) (F0 m 115 ls []) := by
  have hx := F.1
  have hb := F.2.1
  intro k
  induction k with
  | zero =>
    intro st x1 x2 x3 x4 x5 hf
    exact absurd hf (by simp [f_X12_refuted_115])
  | succ k ih =>
    intro st x1 x2 x3 x4 x5 hf H locs ls Z hl
    rw [f_X12_refuted_115] at hf
    refine lv_iload hx hb dX12_refuted_115 (lv_at hl 5 rfl) ?_
    refine lv_if_lt (tgt := 135) hx hb dX12_refuted_117 (by decide) (fun c117 => ?_) (fun c117 => ?_)
    · have hf := if_t c117 hf
      refine lv_iload_n hx hb dX12_refuted_135 rfl (lv_at hl 1 rfl) ?_
      refine lv_iload hx hb dX12_refuted_136 (lv_at hl 4 rfl) ?_
      refine lv_iadd hx hb dX12_refuted_138 ?_
      refine lv_iconst (v := 1) hx hb dX12_refuted_139 (by decide) ?_
      refine lv_isub hx hb dX12_refuted_140 ?_
      refine lv_istore (lv' := [(5, .int ((x1 + x4) - (1 : Int32))), (0, .ref (ad 0)), (1, .int x1), (2, .int x2), (3, .int x3), (4, .int x4)]) hx hb dX12_refuted_141 hl (by decide) rfl (fun ls hl => ?_)
      refine lv_aload_n hx hb dX12_refuted_143 rfl (lv_at hl 1 rfl) ?_
      refine gmX12_106 F K Z dX12_refuted_144 ?_
      refine lv_iload_n hx hb dX12_refuted_147 rfl (lv_at hl 3 rfl) ?_
      obtain ⟨i148, hf⟩ := if_some hf
      refine ml30 F K Z i148 dX12_refuted_148 ?_
      refine lv_istore (lv' := [(6, .int (st.2.1 29 (x2).toNatClampNeg)), (5, .int ((x1 + x4) - (1 : Int32))), (0, .ref (ad 0)), (1, .int x1), (2, .int x2), (3, .int x3), (4, .int x4)]) hx hb dX12_refuted_149 hl (by decide) rfl (fun ls hl => ?_)
      exact b_X12_refuted_151 F hr hk K E hA hk26 _ _ _ _ _ _ _ hf _ _ _ Z (lv_sub hl [2, 3, 5, 6, 1, 0] rfl)
    have hf := if_f c117 hf
    refine lv_iinc (v := (x4 + (1 : Int32))) (lv' := [(4, .int (x4 + (1 : Int32))), (0, .ref (ad 0)), (1, .int x1), (2, .int x2), (3, .int x3), (5, .int x5)]) hx hb dX12_refuted_120 hl (k := 4) rfl (congrArg (fun z => x4 + z) (by decide)) (by decide) rfl (fun ls hl => ?_)
    refine lv_aload_n hx hb dX12_refuted_123 rfl (lv_at hl 1 rfl) ?_
    refine gmX12_112 F K Z dX12_refuted_124 ?_
    refine lv_iload hx hb dX12_refuted_127 (lv_at hl 5 rfl) ?_
    obtain ⟨i129, hf⟩ := if_some hf
    refine ml32 F K Z i129 dX12_refuted_129 ?_
    refine lv_istore (lv' := [(5, .int (st.2.1 31 (x5).toNatClampNeg)), (4, .int (x4 + (1 : Int32))), (0, .ref (ad 0)), (1, .int x1), (2, .int x2), (3, .int x3)]) hx hb dX12_refuted_130 hl (by decide) rfl (fun ls hl => ?_)
    refine lv_goto (tgt := 115) hx hb dX12_refuted_132 (by decide) ?_
    exact ih _ _ _ _ _ _ hf _ _ _ Z (lv_sub hl [2, 3, 4, 5, 1, 0] rfl)
set_option maxRecDepth 100000 in
set_option maxHeartbeats 4000000 in
theorem b_X12_refuted_102 {p : Program} {l : Launch} {e : Env} {s : State} {m : MethodId} {args : Array Value} {below : List Frame} {meth : Method} {c : Code} {D : va_G} {A : Nat → Prop} {ad : Nat → Nat} {cy : Nat → ClassId} {ee : EE} {n : Nat} {res : (Int32 × StT)} (F : CallFix p m c cX12_refuted 7 s args (Cond.code yX12_refuted cX12_refuted 7 (some .int) :: Gw) yX12_refuted.cls) (hr : meth.sig.returnType = (some .int)) (hk : meth.locks = false) (K : va_K D vwCl (tyL cy) s) (E : EV ee A s s.heap) (hA : ∀ q, s.heap.size ≤ q → A q) {k26 : StT → Int32 → Option (Int32 × StT)} (hk26 : ∀ (st : StT) (x1 : Int32), k26 st x1 = some res → ∀ (H : Heap) (locs : List Loc) (ls : Array Slot), ZG D (wM ad cy st) A s H locs → lv_has ls 7 [(0, .ref (ad 0)), (1, .int x1)] → W p l e { frames := 0, cells := 0, slots := 0, locals := 0 } s m args below meth c H locs 0 0 (MQ below (QC D (some (.int res.1)) (wM ad cy res.2) A) args s 0 0 A) (F0 m 26 ls [])) : ∀ (st : StT) (x1 : Int32) (x2 : Int32) (x3 : Int32) (y0 : Int32) (y1 : Int32) (y2 : Int32), f_X12_refuted_102 n k26 st x1 x2 x3 y0 y1 y2 = some res → ∀ (H : Heap) (locs : List Loc) (ls : Array Slot), ZG D (wM ad cy st) A s H locs → lv_has ls 7 [(0, .ref (ad 0)), (1, .int x1), (2, .int x2), (3, .int x3)] → W p l e { frames := 0, cells := 0, slots := 0, locals := 0 } s m args below meth c H locs 0 0 (MQ below (QC D (some (.int res.1)) (wM ad cy res.2) A) args s 0 0 A) (F0 m 102 ls [.int y0, .int y1, .int y2, .ref (ad 55)]) := by
  have hx := F.1
  have hb := F.2.1
  intro st x1 x2 x3 y0 y1 y2 hf H locs ls Z hl
  unfold f_X12_refuted_102 at hf
  refine lv_ior hx hb dX12_refuted_102 ?_
  obtain ⟨i103, hf⟩ := if_some hf
  refine ms55 F K Z i103 dX12_refuted_103 (fun H locs Z => ?_)
  refine lv_iconst (v := 0) hx hb dX12_refuted_104 (by decide) ?_
  refine lv_istore (lv' := [(4, .int (0 : Int32)), (0, .ref (ad 0)), (1, .int x1), (2, .int x2), (3, .int x3)]) hx hb dX12_refuted_105 hl (by decide) rfl (fun ls hl => ?_)
  refine lv_aload_n hx hb dX12_refuted_107 rfl (lv_at hl 1 rfl) ?_
  refine gmX12_106 F K Z dX12_refuted_108 ?_
  refine lv_iload_n hx hb dX12_refuted_111 rfl (lv_at hl 3 rfl) ?_
  obtain ⟨i112, hf⟩ := if_some hf
  refine ml30 F K Z i112 dX12_refuted_112 ?_
  refine lv_istore (lv' := [(5, .int ((uA st 54 y2 (y1 ||| y0)).2.1 29 (x2).toNatClampNeg)), (4, .int (0 : Int32)), (0, .ref (ad 0)), (1, .int x1), (2, .int x2), (3, .int x3)]) hx hb dX12_refuted_113 hl (by decide) rfl (fun ls hl => ?_)
  exact b_X12_refuted_115 F hr hk K E hA hk26 _ _ _ _ _ _ _ hf _ _ _ Z (lv_sub hl [2, 3, 4, 5, 1, 0] rfl)
set_option maxRecDepth 100000 in
set_option maxHeartbeats 4000000 in
theorem b_X12_refuted_26 {p : Program} {l : Launch} {e : Env} {s : State} {m : MethodId} {args : Array Value} {below : List Frame} {meth : Method} {c : Code} {D : va_G} {A : Nat → Prop} {ad : Nat → Nat} {cy : Nat → ClassId} {ee : EE} {n : Nat} {res : (Int32 × StT)} (F : CallFix p m c cX12_refuted 7 s args (Cond.code yX12_refuted cX12_refuted 7 (some .int) :: Gw) yX12_refuted.cls) (hr : meth.sig.returnType = (some .int)) (hk : meth.locks = false) (K : va_K D vwCl (tyL cy) s) (E : EV ee A s s.heap) (hA : ∀ q, s.heap.size ≤ q → A q) : ∀ (k : Nat) (st : StT) (x1 : Int32), f_X12_refuted_26 n k st x1 = some res → ∀ (H : Heap) (locs : List Loc) (ls : Array Slot), ZG D (wM ad cy st) A s H locs → lv_has ls 7 [(0, .ref (ad 0)), (1, .int x1)] → W p l e { frames := 0, cells := 0, slots := 0, locals := 0 } s m args below meth c H locs 0 0 (MQ below (QC D (some (.int res.1)) (wM ad cy res.2) A) args s 0 0 A) (F0 m 26 ls []) := by
  have hx := F.1
  have hb := F.2.1
  intro k
  induction k with
  | zero =>
    intro st x1 hf
    exact absurd hf (by simp [f_X12_refuted_26])
  | succ k ih =>
    intro st x1 hf H locs ls Z hl
    rw [f_X12_refuted_26] at hf
    refine lv_iload_n hx hb dX12_refuted_26 rfl (lv_at hl 1 rfl) ?_
    refine lv_if_le (tgt := 196) hx hb dX12_refuted_27 (by decide) (fun c27 => ?_) (fun c27 => ?_)
    · have hf := if_t c27 hf
      refine lv_aload_n hx hb dX12_refuted_196 rfl (lv_at hl 0 rfl) ?_
      refine gmX12_207 F K Z dX12_refuted_197 ?_
      have hf := Option.some.inj hf
      subst hf
      exact ret_i F hr hk Z dX12_refuted_200
    have hf := if_f c27 hf
    refine lv_iinc (v := (x1 + (-1 : Int32))) (lv' := [(1, .int (x1 + (-1 : Int32))), (0, .ref (ad 0))]) hx hb dX12_refuted_30 hl (k := 1) rfl (congrArg (fun z => x1 + z) (by decide)) (by decide) rfl (fun ls hl => ?_)
    refine lv_aload_n hx hb dX12_refuted_33 rfl (lv_at hl 1 rfl) ?_
    refine gmX12_192 F K Z dX12_refuted_34 ?_
    refine lv_iload_n hx hb dX12_refuted_37 rfl (lv_at hl 0 rfl) ?_
    obtain ⟨i38, hf⟩ := if_some hf
    refine ml58 F K Z i38 dX12_refuted_38 ?_
    refine lv_istore_n (lv' := [(2, .int (st.2.1 56 ((x1 + (-1 : Int32))).toNatClampNeg)), (1, .int (x1 + (-1 : Int32))), (0, .ref (ad 0))]) hx hb dX12_refuted_39 rfl hl (by decide) rfl (fun ls hl => ?_)
    refine lv_aload_n hx hb dX12_refuted_40 rfl (lv_at hl 2 rfl) ?_
    refine gmX12_207 F K Z dX12_refuted_41 ?_
    refine lv_istore_n (lv' := [(3, .int (st.1 36)), (2, .int (st.2.1 56 ((x1 + (-1 : Int32))).toNatClampNeg)), (1, .int (x1 + (-1 : Int32))), (0, .ref (ad 0))]) hx hb dX12_refuted_44 rfl hl (by decide) rfl (fun ls hl => ?_)
    refine lv_aload_n hx hb dX12_refuted_45 rfl (lv_at hl 3 rfl) ?_
    refine lv_dup hx hb dX12_refuted_46 rfl ?_
    refine gmX12_207 F K Z dX12_refuted_47 ?_
    refine lv_iconst (v := 1) hx hb dX12_refuted_50 (by decide) ?_
    refine lv_iadd hx hb dX12_refuted_51 ?_
    refine pmX12_207 F K Z dX12_refuted_52 (fun H locs Z => ?_)
    refine lv_aload_n hx hb dX12_refuted_55 rfl (lv_at hl 3 rfl) ?_
    refine gmX12_178 F K Z dX12_refuted_56 ?_
    refine lv_iload_n hx hb dX12_refuted_59 rfl (lv_at hl 0 rfl) ?_
    refine lv_aload_n hx hb dX12_refuted_60 rfl (lv_at hl 3 rfl) ?_
    refine gmX12_195 F K Z dX12_refuted_61 ?_
    refine lv_iload_n hx hb dX12_refuted_64 rfl (lv_at hl 2 rfl) ?_
    obtain ⟨i65, hf⟩ := if_some hf
    refine ml59 F K Z i65 dX12_refuted_65 ?_
    obtain ⟨i66, hf⟩ := if_some hf
    refine ms54 F K Z i66 dX12_refuted_66 (fun H locs Z => ?_)
    refine lv_aload_n hx hb dX12_refuted_67 rfl (lv_at hl 3 rfl) ?_
    refine gmX12_181 F K Z dX12_refuted_68 ?_
    refine lv_iload_n hx hb dX12_refuted_71 rfl (lv_at hl 0 rfl) ?_
    refine lv_aload_n hx hb dX12_refuted_72 rfl (lv_at hl 3 rfl) ?_
    refine gmX12_115 F K Z dX12_refuted_73 ?_
    refine lv_iload_n hx hb dX12_refuted_76 rfl (lv_at hl 1 rfl) ?_
    obtain ⟨i77, hf⟩ := if_some hf
    refine ml33 F K Z i77 dX12_refuted_77 ?_
    refine lv_aload_n hx hb dX12_refuted_78 rfl (lv_at hl 3 rfl) ?_
    refine gmX12_178 F K Z dX12_refuted_79 ?_
    refine lv_iload_n hx hb dX12_refuted_82 rfl (lv_at hl 0 rfl) ?_
    obtain ⟨i83, hf⟩ := if_some hf
    refine ml54 F K Z i83 dX12_refuted_83 ?_
    refine lv_if_ge (tgt := 91) hx hb dX12_refuted_84 (by decide) (fun c84 => ?_) (fun c84 => ?_)
    · have hf := if_t c84 hf
      refine lv_aload_n hx hb dX12_refuted_91 rfl (lv_at hl 3 rfl) ?_
      refine gmX12_181 F K Z dX12_refuted_92 ?_
      refine lv_aload_n hx hb dX12_refuted_95 rfl (lv_at hl 3 rfl) ?_
      refine gmX12_178 F K Z dX12_refuted_96 ?_
      refine lv_iload_n hx hb dX12_refuted_99 rfl (lv_at hl 0 rfl) ?_
      obtain ⟨i100, hf⟩ := if_some hf
      refine ml54 F K Z i100 dX12_refuted_100 ?_
      obtain ⟨i101, hf⟩ := if_some hf
      refine ml55 F K Z i101 dX12_refuted_101 ?_
      exact b_X12_refuted_102 F hr hk K E hA ih _ _ _ _ _ _ _ hf _ _ _ Z (lv_sub hl [3, 2, 1, 0] rfl)
    have hf := if_f c84 hf
    refine lv_iconst (v := 0) hx hb dX12_refuted_87 (by decide) ?_
    refine lv_goto (tgt := 102) hx hb dX12_refuted_88 (by decide) ?_
    exact b_X12_refuted_102 F hr hk K E hA ih _ _ _ _ _ _ _ hf _ _ _ Z (lv_sub hl [3, 2, 1, 0] rfl)
set_option maxRecDepth 100000 in
set_option maxHeartbeats 4000000 in
theorem c_X12_refuted {l : Launch} {D : va_G} {ad : Nat → Nat} {cy : Nat → ClassId} {ee : EE} {n : Nat} {st : StT} {res : (Int32 × StT)} (hf : f_X12_refuted n st = some res) : CT l yX12_refuted cX12_refuted 7 (some .int) 0 0 D cy ee (wM ad cy st) (wM ad cy res.2) [.ref (ad 0)] (some (.int res.1)) := by
  refine CT.of (by decide +kernel) (Nat.le_of_ble_eq_true rfl) ?_
  intro p e s m args below meth c A F hr hk K E hA Z ls hl
  have hl : lv_has ls 7 [(0, .ref (ad 0))] := hl
  have hx := F.1
  have hb := F.2.1
  unfold f_X12_refuted at hf
  refine lv_aload_n hx hb dX12_refuted_0 rfl (lv_at hl 0 rfl) ?_
  refine lv_iconst (v := 0) hx hb dX12_refuted_1 (by decide) ?_
  refine pmX12_207 F K Z dX12_refuted_2 (fun H locs Z => ?_)
  refine lv_iconst (v := 0) hx hb dX12_refuted_5 (by decide) ?_
  refine lv_istore_n (lv' := [(1, .int (0 : Int32)), (0, .ref (ad 0))]) hx hb dX12_refuted_6 rfl hl (by decide) rfl (fun ls hl => ?_)
  refine lv_aload_n hx hb dX12_refuted_7 rfl (lv_at hl 1 rfl) ?_
  refine gmX12_192 F K Z dX12_refuted_8 ?_
  refine lv_iconst (v := 0) hx hb dX12_refuted_11 (by decide) ?_
  refine lv_aload_n hx hb dX12_refuted_12 rfl (lv_at hl 1 rfl) ?_
  refine gmX12_505 F K Z dX12_refuted_13 ?_
  obtain ⟨i16, hf⟩ := if_some hf
  refine ms58 F K Z i16 dX12_refuted_16 (fun H locs Z => ?_)
  refine lv_aload_n hx hb dX12_refuted_17 rfl (lv_at hl 1 rfl) ?_
  refine gmX12_195 F K Z dX12_refuted_18 ?_
  refine lv_iconst (v := 0) hx hb dX12_refuted_21 (by decide) ?_
  refine lv_iconst (v := -1) hx hb dX12_refuted_22 (by decide) ?_
  obtain ⟨i23, hf⟩ := if_some hf
  refine ms59 F K Z i23 dX12_refuted_23 (fun H locs Z => ?_)
  refine lv_iconst (v := 1) hx hb dX12_refuted_24 (by decide) ?_
  refine lv_istore_n (lv' := [(1, .int (1 : Int32)), (0, .ref (ad 0))]) hx hb dX12_refuted_25 rfl hl (by decide) rfl (fun ls hl => ?_)
  exact b_X12_refuted_26 F hr hk K E hA _ _ _ hf _ _ _ Z (lv_sub hl [1, 0] rfl)
def f_X12_refute_49 (n : Nat) (k27 : StT → Int32 → Int32 → Option (Int32 × StT)) : Nat → StT → Int32 → Int32 → Int32 → Option (Int32 × StT)
  | 0, _, _, _, _ => none
  | k + 1, st, x1, x2, x3 => if x3 < 0 then (k27 st x1 x2) else (if inB x2 2100 = true then (if inB x3 2100 = true then (f_X12_refute_49 n k27 k (uA st 56 x2 x3) x1 (x2 + (1 : Int32)) ((uA st 56 x2 x3).2.1 31 (x3).toNatClampNeg)) else none) else none)
def f_X12_refute_27 (n : Nat) : Nat → StT → Int32 → Int32 → Option (Int32 × StT)
  | 0, _, _, _ => none
  | k + 1, st, x1, x2 => if x2 ≤ 0 then (if x1 ≤ (60 : Int32) then ((f_X12_refuted n st).bind fun q86 => (some (q86.1, q86.2))) else (some ((-4 : Int32), st))) else (if inB (x2 + (-1 : Int32)) 2100 = true then (if inB (st.2.1 56 ((x2 + (-1 : Int32))).toNatClampNeg) 2100 = true then (f_X12_refute_49 n (f_X12_refute_27 n k) n st (x1 + (1 : Int32)) (x2 + (-1 : Int32)) (st.2.1 29 ((st.2.1 56 ((x2 + (-1 : Int32))).toNatClampNeg)).toNatClampNeg)) else none) else none)
def f_X12_refute (n : Nat) (st : StT) : Option (Int32 × StT) := if (st.1 28) = 0 then (if inB (0 : Int32) 2100 = true then (f_X12_refute_27 n n (uA st 56 (0 : Int32) (st.1 29)) (0 : Int32) ((0 : Int32) + (1 : Int32))) else none) else (some ((-3 : Int32), st))
theorem wd1337 : Cond.methodLink RX12 508 yX12_refuted ∈ Gw := gT7 (List.mem_of_getElem? (i := 203) rfl) rfl
theorem wd1338 : Cond.code yX12_refuted prog_14_method_76_code 7 (some .int) ∈ Gw := gT7 (List.mem_of_getElem? (i := 206) rfl) rfl
theorem wd1339 : Cond.instanceMethod yX12_refuted ∈ Gw := gT7 (List.mem_of_getElem? (i := 205) rfl) rfl
theorem wd1340 : Cond.selects RX12 yX12_refuted yX12_refuted ∈ Gw := gP6 (q := (yX12_refuted, 98)) (List.mem_of_getElem? (i := 2) rfl)
section
variable {p : Program} {l : Launch} {e : Env} {R : Room} {s : State} {m : MethodId} {args : Array Value} {below : List Frame} {meth : Method} {c : Code} {H : Heap} {locs : List Loc} {Q : State → Prop}
variable {cc : ByteArray} {nL pc : Nat} {ls : Array Slot} {rest : List Value} {D : va_G} {A : Nat → Prop} {cw : Cond} {ad : Nat → Nat} {cy : Nat → ClassId} {ee : EE} {st : StT} {own : String}
theorem krX12_508_X12_refuted {n : Nat}  {q : (Int32 × StT)} (F : CallFix p m c cc nL s args (cw :: Gw) RX12) (K : va_K D vwCl (tyL cy) s) (E : EV ee A s s.heap) (hA : ∀ q, s.heap.size ≤ q → A q) (Z : ZG D (wM ad cy st) A s H locs) (hf : f_X12_refuted n st = some q) (hR : 1 ≤ R.frames ∧ 26 ≤ R.locals) (hl : ls.size = nL) (hst : (rest.map fun v => v.category).sum ≤ 8) (hd : decode cc pc = .ok (.invokevirtual 508, 3)) (kk : ∀ (H1 : Heap) (locs1 : List Loc), ZG D (wM ad cy q.2) A s H1 locs1 → W p l e R s m args below meth c H1 locs1 0 0 Q (F0 m (pc + 3) ls (.int q.1 :: rest))) : W p l e R s m args below meth c H locs 0 0 Q (F0 m pc ls (.ref (ad 0) :: rest)) :=
  call_V (q := (RX12, TX12, 98)) (n := 0) (As := []) (rv := some (.int q.1)) 0 12 F K E hA Z (c_X12_refuted (l := l) (D := D) (ad := ad) (cy := cy) (ee := ee) hf) ⟨wd1338, wd1337, wd1339, wd1340, wd1008⟩ (by decide +kernel) rfl rfl hR rfl hl hst hd kk
end
set_option maxRecDepth 100000 in
set_option maxHeartbeats 4000000 in
theorem b_X12_refute_49 {p : Program} {l : Launch} {e : Env} {s : State} {m : MethodId} {args : Array Value} {below : List Frame} {meth : Method} {c : Code} {D : va_G} {A : Nat → Prop} {ad : Nat → Nat} {cy : Nat → ClassId} {ee : EE} {n : Nat} {res : (Int32 × StT)} (F : CallFix p m c cX12_refute 4 s args (Cond.code yX12_refute cX12_refute 4 (some .int) :: Gw) yX12_refute.cls) (hr : meth.sig.returnType = (some .int)) (hk : meth.locks = false) (K : va_K D vwCl (tyL cy) s) (E : EV ee A s s.heap) (hA : ∀ q, s.heap.size ≤ q → A q) {k27 : StT → Int32 → Int32 → Option (Int32 × StT)} (hk27 : ∀ (st : StT) (x1 : Int32) (x2 : Int32), k27 st x1 x2 = some res → ∀ (H : Heap) (locs : List Loc) (ls : Array Slot), ZG D (wM ad cy st) A s H locs → lv_has ls 4 [(0, .ref (ad 0)), (1, .int x1), (2, .int x2)] → W p l e { frames := 1, cells := 0, slots := 0, locals := 26 } s m args below meth c H locs 0 0 (MQ below (QC D (some (.int res.1)) (wM ad cy res.2) A) args s 0 0 A) (F0 m 27 ls [])) : ∀ (k : Nat) (st : StT) (x1 : Int32) (x2 : Int32) (x3 : Int32), f_X12_refute_49 n k27 k st x1 x2 x3 = some res → ∀ (H : Heap) (locs : List Loc) (ls : Array Slot), ZG D (wM ad cy st) A s H locs → lv_has ls 4 [(0, .ref (ad 0)), (1, .int x1), (2, .int x2), (3, .int x3)] → W p l e { frames := 1, cells := 0, slots := 0, locals := 26 } s m args below meth c H locs 0 0 (MQ below (QC D (some (.int res.1)) (wM ad cy res.2) A) args s 0 0 A) (F0 m 49 ls []) := by
  have hx := F.1
  have hb := F.2.1
  intro k
  induction k with
  | zero =>
    intro st x1 x2 x3 hf
    exact absurd hf (by simp [f_X12_refute_49])
  | succ k ih =>
    intro st x1 x2 x3 hf H locs ls Z hl
    rw [f_X12_refute_49] at hf
    refine lv_iload_n hx hb dX12_refute_49 rfl (lv_at hl 3 rfl) ?_
    refine lv_if_lt (tgt := 73) hx hb dX12_refute_50 (by decide) (fun c50 => ?_) (fun c50 => ?_)
    · have hf := if_t c50 hf
      refine lv_goto (tgt := 27) hx hb dX12_refute_73 (by decide) ?_
      exact hk27 _ _ _ hf _ _ _ Z (lv_sub hl [0, 1, 2] rfl)
    have hf := if_f c50 hf
    refine lv_aload_n hx hb dX12_refute_53 rfl (lv_at hl 0 rfl) ?_
    refine gmX12_192 F K Z dX12_refute_54 ?_
    refine lv_iload_n hx hb dX12_refute_57 rfl (lv_at hl 2 rfl) ?_
    refine lv_iinc (v := (x2 + (1 : Int32))) (lv' := [(2, .int (x2 + (1 : Int32))), (0, .ref (ad 0)), (1, .int x1), (3, .int x3)]) hx hb dX12_refute_58 hl (k := 2) rfl (congrArg (fun z => x2 + z) (by decide)) (by decide) rfl (fun ls hl => ?_)
    refine lv_iload_n hx hb dX12_refute_61 rfl (lv_at hl 3 rfl) ?_
    obtain ⟨i62, hf⟩ := if_some hf
    refine ms58 F K Z i62 dX12_refute_62 (fun H locs Z => ?_)
    refine lv_aload_n hx hb dX12_refute_63 rfl (lv_at hl 1 rfl) ?_
    refine gmX12_112 F K Z dX12_refute_64 ?_
    refine lv_iload_n hx hb dX12_refute_67 rfl (lv_at hl 3 rfl) ?_
    obtain ⟨i68, hf⟩ := if_some hf
    refine ml32 F K Z i68 dX12_refute_68 ?_
    refine lv_istore_n (lv' := [(3, .int ((uA st 56 x2 x3).2.1 31 (x3).toNatClampNeg)), (2, .int (x2 + (1 : Int32))), (0, .ref (ad 0)), (1, .int x1)]) hx hb dX12_refute_69 rfl hl (by decide) rfl (fun ls hl => ?_)
    refine lv_goto (tgt := 49) hx hb dX12_refute_70 (by decide) ?_
    exact ih _ _ _ _ hf _ _ _ Z (lv_sub hl [2, 3, 1, 0] rfl)
set_option maxRecDepth 100000 in
set_option maxHeartbeats 4000000 in
theorem b_X12_refute_27 {p : Program} {l : Launch} {e : Env} {s : State} {m : MethodId} {args : Array Value} {below : List Frame} {meth : Method} {c : Code} {D : va_G} {A : Nat → Prop} {ad : Nat → Nat} {cy : Nat → ClassId} {ee : EE} {n : Nat} {res : (Int32 × StT)} (F : CallFix p m c cX12_refute 4 s args (Cond.code yX12_refute cX12_refute 4 (some .int) :: Gw) yX12_refute.cls) (hr : meth.sig.returnType = (some .int)) (hk : meth.locks = false) (K : va_K D vwCl (tyL cy) s) (E : EV ee A s s.heap) (hA : ∀ q, s.heap.size ≤ q → A q) : ∀ (k : Nat) (st : StT) (x1 : Int32) (x2 : Int32), f_X12_refute_27 n k st x1 x2 = some res → ∀ (H : Heap) (locs : List Loc) (ls : Array Slot), ZG D (wM ad cy st) A s H locs → lv_has ls 4 [(0, .ref (ad 0)), (1, .int x1), (2, .int x2)] → W p l e { frames := 1, cells := 0, slots := 0, locals := 26 } s m args below meth c H locs 0 0 (MQ below (QC D (some (.int res.1)) (wM ad cy res.2) A) args s 0 0 A) (F0 m 27 ls []) := by
  have hx := F.1
  have hb := F.2.1
  intro k
  induction k with
  | zero =>
    intro st x1 x2 hf
    exact absurd hf (by simp [f_X12_refute_27])
  | succ k ih =>
    intro st x1 x2 hf H locs ls Z hl
    rw [f_X12_refute_27] at hf
    refine lv_iload_n hx hb dX12_refute_27 rfl (lv_at hl 2 rfl) ?_
    refine lv_if_le (tgt := 76) hx hb dX12_refute_28 (by decide) (fun c28 => ?_) (fun c28 => ?_)
    · have hf := if_t c28 hf
      refine lv_iload_n hx hb dX12_refute_76 rfl (lv_at hl 1 rfl) ?_
      refine lv_bipush (v := 60) hx hb dX12_refute_77 (by decide) ?_
      refine lv_icmp_le (tgt := 85) hx hb dX12_refute_79 (by decide) (fun c79 => ?_) (fun c79 => ?_)
      · have hf := if_t c79 hf
        refine lv_aload_n hx hb dX12_refute_85 rfl (lv_at hl 0 rfl) ?_
        obtain ⟨q86, h86, hf⟩ := bind_some hf
        refine krX12_508_X12_refuted F K E hA Z h86 ⟨Nat.le_of_ble_eq_true rfl, Nat.le_of_ble_eq_true rfl⟩ hl.1 (Nat.le_of_ble_eq_true rfl) dX12_refute_86 (fun H locs Z => ?_)
        have hf := Option.some.inj hf
        subst hf
        exact ret_i F hr hk Z dX12_refute_89
      have hf := if_f c79 hf
      refine lv_bipush (v := -4) hx hb dX12_refute_82 (by decide) ?_
      have hf := Option.some.inj hf
      subst hf
      exact ret_i F hr hk Z dX12_refute_84
    have hf := if_f c28 hf
    refine lv_iinc (v := (x2 + (-1 : Int32))) (lv' := [(2, .int (x2 + (-1 : Int32))), (0, .ref (ad 0)), (1, .int x1)]) hx hb dX12_refute_31 hl (k := 2) rfl (congrArg (fun z => x2 + z) (by decide)) (by decide) rfl (fun ls hl => ?_)
    refine lv_iinc (v := (x1 + (1 : Int32))) (lv' := [(1, .int (x1 + (1 : Int32))), (2, .int (x2 + (-1 : Int32))), (0, .ref (ad 0))]) hx hb dX12_refute_34 hl (k := 2) rfl (congrArg (fun z => x1 + z) (by decide)) (by decide) rfl (fun ls hl => ?_)
    refine lv_aload_n hx hb dX12_refute_37 rfl (lv_at hl 2 rfl) ?_
    refine gmX12_106 F K Z dX12_refute_38 ?_
    refine lv_aload_n hx hb dX12_refute_41 rfl (lv_at hl 2 rfl) ?_
    refine gmX12_192 F K Z dX12_refute_42 ?_
    refine lv_iload_n hx hb dX12_refute_45 rfl (lv_at hl 1 rfl) ?_
    obtain ⟨i46, hf⟩ := if_some hf
    refine ml58 F K Z i46 dX12_refute_46 ?_
    obtain ⟨i47, hf⟩ := if_some hf
    refine ml30 F K Z i47 dX12_refute_47 ?_
    refine lv_istore_n (lv' := [(3, .int (st.2.1 29 ((st.2.1 56 ((x2 + (-1 : Int32))).toNatClampNeg)).toNatClampNeg)), (1, .int (x1 + (1 : Int32))), (2, .int (x2 + (-1 : Int32))), (0, .ref (ad 0))]) hx hb dX12_refute_48 rfl hl (by decide) rfl (fun ls hl => ?_)
    exact b_X12_refute_49 F hr hk K E hA ih _ _ _ _ _ hf _ _ _ Z (lv_sub hl [3, 1, 2, 0] rfl)
set_option maxRecDepth 100000 in
set_option maxHeartbeats 4000000 in
theorem c_X12_refute {l : Launch} {D : va_G} {ad : Nat → Nat} {cy : Nat → ClassId} {ee : EE} {n : Nat} {st : StT} {res : (Int32 × StT)} (hf : f_X12_refute n st = some res) : CT l yX12_refute cX12_refute 4 (some .int) 1 26 D cy ee (wM ad cy st) (wM ad cy res.2) [.ref (ad 0)] (some (.int res.1)) := by
  refine CT.of (by decide +kernel) (Nat.le_of_ble_eq_true rfl) ?_
  intro p e s m args below meth c A F hr hk K E hA Z ls hl
  have hl : lv_has ls 4 [(0, .ref (ad 0))] := hl
  have hx := F.1
  have hb := F.2.1
  unfold f_X12_refute at hf
  refine lv_aload_n hx hb dX12_refute_0 rfl (lv_at hl 0 rfl) ?_
  refine gmX12_103 F K Z dX12_refute_1 ?_
  refine lv_if_eq (tgt := 10) hx hb dX12_refute_4 (by decide) (fun c4 => ?_) (fun c4 => ?_)
  · have hf := if_t c4 hf
    refine lv_iconst (v := 0) hx hb dX12_refute_10 (by decide) ?_
    refine lv_istore_n (lv' := [(1, .int (0 : Int32)), (0, .ref (ad 0))]) hx hb dX12_refute_11 rfl hl (by decide) rfl (fun ls hl => ?_)
    refine lv_iconst (v := 0) hx hb dX12_refute_12 (by decide) ?_
    refine lv_istore_n (lv' := [(2, .int (0 : Int32)), (1, .int (0 : Int32)), (0, .ref (ad 0))]) hx hb dX12_refute_13 rfl hl (by decide) rfl (fun ls hl => ?_)
    refine lv_aload_n hx hb dX12_refute_14 rfl (lv_at hl 2 rfl) ?_
    refine gmX12_192 F K Z dX12_refute_15 ?_
    refine lv_iload_n hx hb dX12_refute_18 rfl (lv_at hl 0 rfl) ?_
    refine lv_iinc (v := ((0 : Int32) + (1 : Int32))) (lv' := [(2, .int ((0 : Int32) + (1 : Int32))), (1, .int (0 : Int32)), (0, .ref (ad 0))]) hx hb dX12_refute_19 hl (k := 0) rfl (congrArg (fun z => (0 : Int32) + z) (by decide)) (by decide) rfl (fun ls hl => ?_)
    refine lv_aload_n hx hb dX12_refute_22 rfl (lv_at hl 2 rfl) ?_
    refine gmX12_505 F K Z dX12_refute_23 ?_
    obtain ⟨i26, hf⟩ := if_some hf
    refine ms58 F K Z i26 dX12_refute_26 (fun H locs Z => ?_)
    exact b_X12_refute_27 F hr hk K E hA _ _ _ _ hf _ _ _ Z (lv_sub hl [2, 1, 0] rfl)
  have hf := if_f c4 hf
  refine lv_bipush (v := -3) hx hb dX12_refute_7 (by decide) ?_
  have hf := Option.some.inj hf
  subst hf
  exact ret_i F hr hk Z dX12_refute_9
def f_X12_feed_42 (n : Nat) : Nat → StT → Int64 → Int32 → Option (Int32 × StT)
  | 0, _, _, _ => none
  | k + 1, st, x1, x4 => if x4 < 0 then (some ((st.1 3), st)) else (if inB (st.1 3) 3000 = true then (f_X12_feed_42 n k (uF (uA st 6 (st.1 3) (x1 >>> (((8 : Int32) * x4).toInt64 &&& 63)).toInt32.toInt8.toInt32) 3 (((uA st 6 (st.1 3) (x1 >>> (((8 : Int32) * x4).toInt64 &&& 63)).toInt32.toInt8.toInt32).1 3) + (1 : Int32))) x1 (x4 + (-1 : Int32))) else none)
def f_X12_feed_22 (n : Nat) (st : StT) (x1 : Int64) (x3 : Int32) : Option (Int32 × StT) := if ((st.1 3) + x3) ≤ (3000 : Int32) then (f_X12_feed_42 n n st x1 (x3 - (1 : Int32))) else (some ((-4 : Int32), st))
def f_X12_feed (n : Nat) (st : StT) (x1 : Int64) (x3 : Int32) : Option (Int32 × StT) := if x3 < 0 then (some ((-2 : Int32), st)) else (if x3 ≤ (8 : Int32) then (if x3 = 0 then (f_X12_feed_22 n (uF st 3 (0 : Int32)) x1 x3) else (f_X12_feed_22 n st x1 x3)) else (some ((-2 : Int32), st)))
section
variable {p : Program} {l : Launch} {e : Env} {R : Room} {s : State} {m : MethodId} {args : Array Value} {below : List Frame} {meth : Method} {c : Code} {H : Heap} {locs : List Loc} {Q : State → Prop}
variable {cc : ByteArray} {nL pc : Nat} {ls : Array Slot} {rest : List Value} {D : va_G} {A : Nat → Prop} {cw : Cond} {ad : Nat → Nat} {cy : Nat → ClassId} {ee : EE} {st : StT} {own : String}
theorem pmX12_217 {v : Int32} (F : CallFix p m c cc nL s args (cw :: Gw) RX12) (K : va_K D vwCl (tyL cy) s) (Z : ZG D (wM ad cy st) A s H locs) (hd : decode cc pc = .ok (.putfield 217, 3)) (kk : ∀ (H1 : Heap) (locs1 : List Loc), ZG D (wM ad cy (uF st 3 v)) A s H1 locs1 → W p l e R s m args below meth c H1 locs1 0 0 Q (F0 m (pc + 3) ls rest)) : W p l e R s m args below meth c H locs 0 0 Q (F0 m pc ls (.int v :: .ref (ad 0) :: rest)) :=
  va_put (D := D) (ci := 12) (v := .int v) (ty := .int) (C := RX12) (T := TX12) (N := 98) F.1 F.2.1 F.2.2.2.2 (fun w h => List.mem_cons_of_mem _ (inG_X12 w h)) tyX12 tyX12_ok nmX12 F.2.2.2.1 K Z.1 Z.2.1 Z.2.2 0 rfl rfl 10 (by decide) (F.2.2.2.2 _ (List.mem_cons_of_mem _ wd1013)) (fun _ h => h) rfl (by decide +kernel) rfl rfl (Nat.le_of_ble_eq_true rfl) hd (fun H1 locs1 hP hD hS => kk H1 locs1 ⟨hP, hD, hS⟩)
theorem ms7 {i : Int32} {v : Int32} (F : CallFix p m c cc nL s args (cw :: Gw) own) (K : va_K D vwCl (tyL cy) s) (Z : ZG D (wM ad cy st) A s H locs) (hi : inB i 3000 = true) (hd : decode cc pc = .ok (.iastore, 1)) (kk : ∀ (H1 : Heap) (locs1 : List Loc), ZG D (wM ad cy (uA st 6 i v)) A s H1 locs1 → W p l e R s m args below meth c H1 locs1 0 0 Q (F0 m (pc + 1) ls rest)) : W p l e R s m args below meth c H locs 0 0 Q (F0 m pc ls (.int v :: .int i :: .ref (ad 7) :: rest)) :=
  va_iast F.1 F.2.1 K Z.1 Z.2.1 Z.2.2 7 1 rfl rfl (inB_vp hi) hd (fun H1 locs1 hP hD hS => kk H1 locs1 ⟨hP, hD, hS⟩)
end
set_option maxRecDepth 100000 in
set_option maxHeartbeats 4000000 in
theorem b_X12_feed_42 {p : Program} {l : Launch} {e : Env} {s : State} {m : MethodId} {args : Array Value} {below : List Frame} {meth : Method} {c : Code} {D : va_G} {A : Nat → Prop} {ad : Nat → Nat} {cy : Nat → ClassId} {ee : EE} {n : Nat} {res : (Int32 × StT)} (F : CallFix p m c cX12_feed 5 s args (Cond.code yX12_feed cX12_feed 5 (some .int) :: Gw) yX12_feed.cls) (hr : meth.sig.returnType = (some .int)) (hk : meth.locks = false) (K : va_K D vwCl (tyL cy) s) (E : EV ee A s s.heap) (hA : ∀ q, s.heap.size ≤ q → A q) : ∀ (k : Nat) (st : StT) (x1 : Int64) (x4 : Int32), f_X12_feed_42 n k st x1 x4 = some res → ∀ (H : Heap) (locs : List Loc) (ls : Array Slot), ZG D (wM ad cy st) A s H locs → lv_has ls 5 [(0, .ref (ad 0)), (1, .long x1), (4, .int x4)] → W p l e { frames := 0, cells := 0, slots := 0, locals := 0 } s m args below meth c H locs 0 0 (MQ below (QC D (some (.int res.1)) (wM ad cy res.2) A) args s 0 0 A) (F0 m 42 ls []) := by
  have hx := F.1
  have hb := F.2.1
  intro k
  induction k with
  | zero =>
    intro st x1 x4 hf
    exact absurd hf (by simp [f_X12_feed_42])
  | succ k ih =>
    intro st x1 x4 hf H locs ls Z hl
    rw [f_X12_feed_42] at hf
    refine lv_iload hx hb dX12_feed_42 (lv_at hl 2 rfl) ?_
    refine lv_if_lt (tgt := 81) hx hb dX12_feed_44 (by decide) (fun c44 => ?_) (fun c44 => ?_)
    · have hf := if_t c44 hf
      refine lv_aload_n hx hb dX12_feed_81 rfl (lv_at hl 0 rfl) ?_
      refine gmX12_217 F K Z dX12_feed_82 ?_
      have hf := Option.some.inj hf
      subst hf
      exact ret_i F hr hk Z dX12_feed_85
    have hf := if_f c44 hf
    refine lv_aload_n hx hb dX12_feed_47 rfl (lv_at hl 0 rfl) ?_
    refine gmX12_28 F K Z dX12_feed_48 ?_
    refine lv_aload_n hx hb dX12_feed_51 rfl (lv_at hl 0 rfl) ?_
    refine gmX12_217 F K Z dX12_feed_52 ?_
    refine lv_lload_n hx hb dX12_feed_55 rfl (lv_at hl 1 rfl) ?_
    refine lv_bipush (v := 8) hx hb dX12_feed_56 (by decide) ?_
    refine lv_iload hx hb dX12_feed_58 (lv_at hl 2 rfl) ?_
    refine lv_imul hx hb dX12_feed_60 ?_
    refine lv_lshr hx hb dX12_feed_61 rfl ?_
    refine lv_l2i hx hb dX12_feed_62 rfl ?_
    refine lv_i2b hx hb dX12_feed_63 rfl ?_
    obtain ⟨i64, hf⟩ := if_some hf
    refine ms7 F K Z i64 dX12_feed_64 (fun H locs Z => ?_)
    refine lv_aload_n hx hb dX12_feed_65 rfl (lv_at hl 0 rfl) ?_
    refine lv_dup hx hb dX12_feed_66 rfl ?_
    refine gmX12_217 F K Z dX12_feed_67 ?_
    refine lv_iconst (v := 1) hx hb dX12_feed_70 (by decide) ?_
    refine lv_iadd hx hb dX12_feed_71 ?_
    refine pmX12_217 F K Z dX12_feed_72 (fun H locs Z => ?_)
    refine lv_iinc (v := (x4 + (-1 : Int32))) (lv' := [(4, .int (x4 + (-1 : Int32))), (0, .ref (ad 0)), (1, .long x1)]) hx hb dX12_feed_75 hl (k := 2) rfl (congrArg (fun z => x4 + z) (by decide)) (by decide) rfl (fun ls hl => ?_)
    refine lv_goto (tgt := 42) hx hb dX12_feed_78 (by decide) ?_
    exact ih _ _ _ hf _ _ _ Z (lv_sub hl [1, 2, 0] rfl)
set_option maxRecDepth 100000 in
set_option maxHeartbeats 4000000 in
theorem b_X12_feed_22 {p : Program} {l : Launch} {e : Env} {s : State} {m : MethodId} {args : Array Value} {below : List Frame} {meth : Method} {c : Code} {D : va_G} {A : Nat → Prop} {ad : Nat → Nat} {cy : Nat → ClassId} {ee : EE} {n : Nat} {res : (Int32 × StT)} (F : CallFix p m c cX12_feed 5 s args (Cond.code yX12_feed cX12_feed 5 (some .int) :: Gw) yX12_feed.cls) (hr : meth.sig.returnType = (some .int)) (hk : meth.locks = false) (K : va_K D vwCl (tyL cy) s) (E : EV ee A s s.heap) (hA : ∀ q, s.heap.size ≤ q → A q) : ∀ (st : StT) (x1 : Int64) (x3 : Int32), f_X12_feed_22 n st x1 x3 = some res → ∀ (H : Heap) (locs : List Loc) (ls : Array Slot), ZG D (wM ad cy st) A s H locs → lv_has ls 5 [(0, .ref (ad 0)), (1, .long x1), (3, .int x3)] → W p l e { frames := 0, cells := 0, slots := 0, locals := 0 } s m args below meth c H locs 0 0 (MQ below (QC D (some (.int res.1)) (wM ad cy res.2) A) args s 0 0 A) (F0 m 22 ls []) := by
  have hx := F.1
  have hb := F.2.1
  intro st x1 x3 hf H locs ls Z hl
  unfold f_X12_feed_22 at hf
  refine lv_aload_n hx hb dX12_feed_22 rfl (lv_at hl 0 rfl) ?_
  refine gmX12_217 F K Z dX12_feed_23 ?_
  refine lv_iload_n hx hb dX12_feed_26 rfl (lv_at hl 2 rfl) ?_
  refine lv_iadd hx hb dX12_feed_27 ?_
  refine lv_sipush (v := 3000) hx hb dX12_feed_28 (by decide) ?_
  refine lv_icmp_le (tgt := 37) hx hb dX12_feed_31 (by decide) (fun c31 => ?_) (fun c31 => ?_)
  · have hf := if_t c31 hf
    refine lv_iload_n hx hb dX12_feed_37 rfl (lv_at hl 2 rfl) ?_
    refine lv_iconst (v := 1) hx hb dX12_feed_38 (by decide) ?_
    refine lv_isub hx hb dX12_feed_39 ?_
    refine lv_istore (lv' := [(4, .int (x3 - (1 : Int32))), (0, .ref (ad 0)), (1, .long x1), (3, .int x3)]) hx hb dX12_feed_40 hl (by decide) rfl (fun ls hl => ?_)
    exact b_X12_feed_42 F hr hk K E hA _ _ _ _ hf _ _ _ Z (lv_sub hl [1, 2, 0] rfl)
  have hf := if_f c31 hf
  refine lv_bipush (v := -4) hx hb dX12_feed_34 (by decide) ?_
  have hf := Option.some.inj hf
  subst hf
  exact ret_i F hr hk Z dX12_feed_36
set_option maxRecDepth 100000 in
set_option maxHeartbeats 4000000 in
theorem c_X12_feed {l : Launch} {D : va_G} {ad : Nat → Nat} {cy : Nat → ClassId} {ee : EE} {n : Nat} {st : StT} {x1 : Int64} {x3 : Int32} {res : (Int32 × StT)} (hf : f_X12_feed n st x1 x3 = some res) : CT l yX12_feed cX12_feed 5 (some .int) 0 0 D cy ee (wM ad cy st) (wM ad cy res.2) [.ref (ad 0), .long x1, .int x3] (some (.int res.1)) := by
  refine CT.of (by decide +kernel) (Nat.le_of_ble_eq_true rfl) ?_
  intro p e s m args below meth c A F hr hk K E hA Z ls hl
  have hl : lv_has ls 5 [(0, .ref (ad 0)), (1, .long x1), (3, .int x3)] := hl
  have hx := F.1
  have hb := F.2.1
  unfold f_X12_feed at hf
  refine lv_iload_n hx hb dX12_feed_0 rfl (lv_at hl 2 rfl) ?_
  refine lv_if_lt (tgt := 10) hx hb dX12_feed_1 (by decide) (fun c1 => ?_) (fun c1 => ?_)
  · have hf := if_t c1 hf
    refine lv_bipush (v := -2) hx hb dX12_feed_10 (by decide) ?_
    have hf := Option.some.inj hf
    subst hf
    exact ret_i F hr hk Z dX12_feed_12
  have hf := if_f c1 hf
  refine lv_iload_n hx hb dX12_feed_4 rfl (lv_at hl 2 rfl) ?_
  refine lv_bipush (v := 8) hx hb dX12_feed_5 (by decide) ?_
  refine lv_icmp_le (tgt := 13) hx hb dX12_feed_7 (by decide) (fun c7 => ?_) (fun c7 => ?_)
  · have hf := if_t c7 hf
    refine lv_iload_n hx hb dX12_feed_13 rfl (lv_at hl 2 rfl) ?_
    refine lv_if_ne (tgt := 22) hx hb dX12_feed_14 (by decide) (fun c14 => ?_) (fun c14 => ?_)
    · have hf := if_f c14 hf
      exact b_X12_feed_22 F hr hk K E hA _ _ _ hf _ _ _ Z hl
    have hf := if_t c14 hf
    refine lv_aload_n hx hb dX12_feed_17 rfl (lv_at hl 0 rfl) ?_
    refine lv_iconst (v := 0) hx hb dX12_feed_18 (by decide) ?_
    refine pmX12_217 F K Z dX12_feed_19 (fun H locs Z => ?_)
    exact b_X12_feed_22 F hr hk K E hA _ _ _ hf _ _ _ Z hl
  have hf := if_f c7 hf
  refine lv_bipush (v := -2) hx hb dX12_feed_10 (by decide) ?_
  have hf := Option.some.inj hf
  subst hf
  exact ret_i F hr hk Z dX12_feed_12
def f_X12_beginText (n : Nat) (st : StT) (x1 : Int32) : Option StT := if isZ x1 = true then (some (uF (uF (uF (uF (uF st 9 x1) 4 (0 : Int32)) 8 (0 : Int32)) 10 (0 : Int32)) 13 (0 : Int32))) else none
section
variable {p : Program} {l : Launch} {e : Env} {R : Room} {s : State} {m : MethodId} {args : Array Value} {below : List Frame} {meth : Method} {c : Code} {H : Heap} {locs : List Loc} {Q : State → Prop}
variable {cc : ByteArray} {nL pc : Nat} {ls : Array Slot} {rest : List Value} {D : va_G} {A : Nat → Prop} {cw : Cond} {ad : Nat → Nat} {cy : Nat → ClassId} {ee : EE} {st : StT} {own : String}
theorem pmX12_220 {v : Int32} (F : CallFix p m c cc nL s args (cw :: Gw) RX12) (K : va_K D vwCl (tyL cy) s) (Z : ZG D (wM ad cy st) A s H locs) (hz : isZ v = true) (hd : decode cc pc = .ok (.putfield 220, 3)) (kk : ∀ (H1 : Heap) (locs1 : List Loc), ZG D (wM ad cy (uF st 9 v)) A s H1 locs1 → W p l e R s m args below meth c H1 locs1 0 0 Q (F0 m (pc + 3) ls rest)) : W p l e R s m args below meth c H locs 0 0 Q (F0 m pc ls (.int v :: .ref (ad 0) :: rest)) :=
  va_put (D := D) (ci := 12) (v := .int v) (ty := .boolean) (C := RX12) (T := TX12) (N := 98) F.1 F.2.1 F.2.2.2.2 (fun w h => List.mem_cons_of_mem _ (inG_X12 w h)) tyX12 tyX12_ok nmX12 F.2.2.2.1 K Z.1 Z.2.1 Z.2.2 0 rfl rfl 16 (by decide) (F.2.2.2.2 _ (List.mem_cons_of_mem _ wd1015)) (fun _ h => h) rfl (by decide +kernel) (isZ_nar hz) (isZ_fit hz) (Nat.le_of_ble_eq_true rfl) hd (fun H1 locs1 hP hD hS => kk H1 locs1 ⟨hP, hD, hS⟩)
end
set_option maxRecDepth 100000 in
set_option maxHeartbeats 4000000 in
theorem c_X12_beginText {l : Launch} {D : va_G} {ad : Nat → Nat} {cy : Nat → ClassId} {ee : EE} {n : Nat} {st : StT} {x1 : Int32} {res : StT} (hf : f_X12_beginText n st x1 = some res) : CT l yX12_beginText cX12_beginText 2 none 0 0 D cy ee (wM ad cy st) (wM ad cy res) [.ref (ad 0), .int x1] (none) := by
  refine CT.of (by decide +kernel) (Nat.le_of_ble_eq_true rfl) ?_
  intro p e s m args below meth c A F hr hk K E hA Z ls hl
  have hl : lv_has ls 2 [(0, .ref (ad 0)), (1, .int x1)] := hl
  have hx := F.1
  have hb := F.2.1
  unfold f_X12_beginText at hf
  refine lv_aload_n hx hb dX12_beginText_0 rfl (lv_at hl 0 rfl) ?_
  refine lv_iload_n hx hb dX12_beginText_1 rfl (lv_at hl 1 rfl) ?_
  obtain ⟨i2, hf⟩ := if_some hf
  refine pmX12_220 F K Z i2 dX12_beginText_2 (fun H locs Z => ?_)
  refine lv_aload_n hx hb dX12_beginText_5 rfl (lv_at hl 0 rfl) ?_
  refine lv_iconst (v := 0) hx hb dX12_beginText_6 (by decide) ?_
  refine pmX12_230 F K Z dX12_beginText_7 (fun H locs Z => ?_)
  refine lv_aload_n hx hb dX12_beginText_10 rfl (lv_at hl 0 rfl) ?_
  refine lv_iconst (v := 0) hx hb dX12_beginText_11 (by decide) ?_
  refine pmX12_233 F K Z rfl dX12_beginText_12 (fun H locs Z => ?_)
  refine lv_aload_n hx hb dX12_beginText_15 rfl (lv_at hl 0 rfl) ?_
  refine lv_iconst (v := 0) hx hb dX12_beginText_16 (by decide) ?_
  refine pmX12_257 F K Z dX12_beginText_17 (fun H locs Z => ?_)
  refine lv_aload_n hx hb dX12_beginText_20 rfl (lv_at hl 0 rfl) ?_
  refine lv_iconst (v := 0) hx hb dX12_beginText_21 (by decide) ?_
  refine pmX12_277 F K Z dX12_beginText_22 (fun H locs Z => ?_)
  have hf := Option.some.inj hf
  subst hf
  exact ret_v F hr hk Z dX12_beginText_25
def f_X12_read_53 (n : Nat) (st : StT) (x1 : Int32) (y0 : Int32) : Option (Int32 × StT) := if ((uF st 12 y0).1 10) = 0 then (some (x1, (uF st 12 y0))) else (some (((-10 : Int32) - ((uF st 12 y0).1 10)), (uF st 12 y0)))
def f_X12_read_37 (n : Nat) (st : StT) (x1 : Int32) : Option (Int32 × StT) := if (st.1 10) = 0 then (f_X12_read_53 n st x1 (-1 : Int32)) else (f_X12_read_53 n st x1 (st.1 11))
def f_X12_read (n : Nat) (st : StT) : Option (Int32 × StT) := (f_X12_beginText n st (0 : Int32)).bind fun q2 => ((f_X12_readFormula n q2).bind fun q6 => (if (q6.2.1 10) = 0 then ((f_X12_look n q6.2).bind fun q18 => (if q18.1 = (256 : Int32) then (f_X12_read_37 n q18.2 q6.1) else ((f_X12_fail n q18.2 (2 : Int32) (q18.2.1 6)).bind fun q33 => (f_X12_read_37 n q33.2 q6.1)))) else (f_X12_read_37 n q6.2 q6.1)))
theorem wd1341 : Cond.fieldLink RX12 31 "WorldProverModel" "place" "I" ∈ Gw := gT6 (List.mem_of_getElem? (i := 77) rfl) rfl
theorem wd1342 : Cond.methodLink RX12 511 yX12_beginText ∈ Gw := gT7 (List.mem_of_getElem? (i := 215) rfl) rfl
theorem wd1343 : Cond.code yX12_beginText prog_14_method_78_code 2 none ∈ Gw := gT7 (List.mem_of_getElem? (i := 218) rfl) rfl
theorem wd1344 : Cond.instanceMethod yX12_beginText ∈ Gw := gT7 (List.mem_of_getElem? (i := 217) rfl) rfl
theorem wd1345 : Cond.selects RX12 yX12_beginText yX12_beginText ∈ Gw := gP6 (q := (yX12_beginText, 98)) (List.mem_of_getElem? (i := 3) rfl)
section
variable {p : Program} {l : Launch} {e : Env} {R : Room} {s : State} {m : MethodId} {args : Array Value} {below : List Frame} {meth : Method} {c : Code} {H : Heap} {locs : List Loc} {Q : State → Prop}
variable {cc : ByteArray} {nL pc : Nat} {ls : Array Slot} {rest : List Value} {D : va_G} {A : Nat → Prop} {cw : Cond} {ad : Nat → Nat} {cy : Nat → ClassId} {ee : EE} {st : StT} {own : String}
theorem gmX12_260 (F : CallFix p m c cc nL s args (cw :: Gw) RX12) (K : va_K D vwCl (tyL cy) s) (Z : ZG D (wM ad cy st) A s H locs) (hd : decode cc pc = .ok (.getfield 260, 3)) (kk : W p l e R s m args below meth c H locs 0 0 Q (F0 m (pc + 3) ls (.int (st.1 11) :: rest))) : W p l e R s m args below meth c H locs 0 0 Q (F0 m pc ls (.ref (ad 0) :: rest)) :=
  va_get (D := D) (ci := 12) (C := RX12) (T := TX12) (N := 98) F.1 F.2.1 F.2.2.2.2 (fun w h => List.mem_cons_of_mem _ (inG_X12 w h)) F.2.2.2.1 K Z.1 0 rfl rfl 18 (by decide) (F.2.2.2.2 _ (List.mem_cons_of_mem _ wd1040)) (fun _ h => h) rfl hd kk
theorem pmX12_31 {v : Int32} (F : CallFix p m c cc nL s args (cw :: Gw) RX12) (K : va_K D vwCl (tyL cy) s) (Z : ZG D (wM ad cy st) A s H locs) (hd : decode cc pc = .ok (.putfield 31, 3)) (kk : ∀ (H1 : Heap) (locs1 : List Loc), ZG D (wM ad cy (uF st 12 v)) A s H1 locs1 → W p l e R s m args below meth c H1 locs1 0 0 Q (F0 m (pc + 3) ls rest)) : W p l e R s m args below meth c H locs 0 0 Q (F0 m pc ls (.int v :: .ref (ad 0) :: rest)) :=
  va_put (D := D) (ci := 12) (v := .int v) (ty := .int) (C := RX12) (T := TX12) (N := 98) F.1 F.2.1 F.2.2.2.2 (fun w h => List.mem_cons_of_mem _ (inG_X12 w h)) tyX12 tyX12_ok nmX12 F.2.2.2.1 K Z.1 Z.2.1 Z.2.2 0 rfl rfl 19 (by decide) (F.2.2.2.2 _ (List.mem_cons_of_mem _ wd1341)) (fun _ h => h) rfl (by decide +kernel) rfl rfl (Nat.le_of_ble_eq_true rfl) hd (fun H1 locs1 hP hD hS => kk H1 locs1 ⟨hP, hD, hS⟩)
theorem krX12_511_X12_beginText {n : Nat} {a0 : Int32} {q : StT} (F : CallFix p m c cc nL s args (cw :: Gw) RX12) (K : va_K D vwCl (tyL cy) s) (E : EV ee A s s.heap) (hA : ∀ q, s.heap.size ≤ q → A q) (Z : ZG D (wM ad cy st) A s H locs) (hf : f_X12_beginText n st a0 = some q) (hR : 1 ≤ R.frames ∧ 21 ≤ R.locals) (hl : ls.size = nL) (hst : (rest.map fun v => v.category).sum ≤ 8) (hd : decode cc pc = .ok (.invokevirtual 511, 3)) (kk : ∀ (H1 : Heap) (locs1 : List Loc), ZG D (wM ad cy q) A s H1 locs1 → W p l e R s m args below meth c H1 locs1 0 0 Q (F0 m (pc + 3) ls (rest))) : W p l e R s m args below meth c H locs 0 0 Q (F0 m pc ls (.int a0 :: .ref (ad 0) :: rest)) :=
  call_V (q := (RX12, TX12, 98)) (n := 1) (As := [.int a0]) (rv := none) 0 12 F K E hA Z (c_X12_beginText (l := l) (D := D) (ad := ad) (cy := cy) (ee := ee) hf) ⟨wd1343, wd1342, wd1344, wd1345, wd1008⟩ (by decide +kernel) rfl rfl hR rfl hl hst hd kk
end
set_option maxRecDepth 100000 in
set_option maxHeartbeats 4000000 in
theorem b_X12_read_53 {p : Program} {l : Launch} {e : Env} {s : State} {m : MethodId} {args : Array Value} {below : List Frame} {meth : Method} {c : Code} {D : va_G} {A : Nat → Prop} {ad : Nat → Nat} {cy : Nat → ClassId} {ee : EE} {n : Nat} {res : (Int32 × StT)} (F : CallFix p m c cX12_read 3 s args (Cond.code yX12_read cX12_read 3 (some .int) :: Gw) yX12_read.cls) (hr : meth.sig.returnType = (some .int)) (hk : meth.locks = false) (K : va_K D vwCl (tyL cy) s) (E : EV ee A s s.heap) (hA : ∀ q, s.heap.size ≤ q → A q) : ∀ (st : StT) (x1 : Int32) (y0 : Int32), f_X12_read_53 n st x1 y0 = some res → ∀ (H : Heap) (locs : List Loc) (ls : Array Slot), ZG D (wM ad cy st) A s H locs → lv_has ls 3 [(0, .ref (ad 0)), (1, .int x1)] → W p l e { frames := 6, cells := 0, slots := 0, locals := 137 } s m args below meth c H locs 0 0 (MQ below (QC D (some (.int res.1)) (wM ad cy res.2) A) args s 0 0 A) (F0 m 53 ls [.int y0, .ref (ad 0)]) := by
  have hx := F.1
  have hb := F.2.1
  intro st x1 y0 hf H locs ls Z hl
  unfold f_X12_read_53 at hf
  refine pmX12_31 F K Z dX12_read_53 (fun H locs Z => ?_)
  refine lv_aload_n hx hb dX12_read_56 rfl (lv_at hl 0 rfl) ?_
  refine gmX12_257 F K Z dX12_read_57 ?_
  refine lv_if_ne (tgt := 67) hx hb dX12_read_60 (by decide) (fun c60 => ?_) (fun c60 => ?_)
  · have hf := if_f c60 hf
    refine lv_bipush (v := -10) hx hb dX12_read_67 (by decide) ?_
    refine lv_aload_n hx hb dX12_read_69 rfl (lv_at hl 0 rfl) ?_
    refine gmX12_257 F K Z dX12_read_70 ?_
    refine lv_isub hx hb dX12_read_73 ?_
    have hf := Option.some.inj hf
    subst hf
    exact ret_i F hr hk Z dX12_read_74
  have hf := if_t c60 hf
  refine lv_iload_n hx hb dX12_read_63 rfl (lv_at hl 1 rfl) ?_
  refine lv_goto (tgt := 74) hx hb dX12_read_64 (by decide) ?_
  have hf := Option.some.inj hf
  subst hf
  exact ret_i F hr hk Z dX12_read_74
set_option maxRecDepth 100000 in
set_option maxHeartbeats 4000000 in
theorem b_X12_read_37 {p : Program} {l : Launch} {e : Env} {s : State} {m : MethodId} {args : Array Value} {below : List Frame} {meth : Method} {c : Code} {D : va_G} {A : Nat → Prop} {ad : Nat → Nat} {cy : Nat → ClassId} {ee : EE} {n : Nat} {res : (Int32 × StT)} (F : CallFix p m c cX12_read 3 s args (Cond.code yX12_read cX12_read 3 (some .int) :: Gw) yX12_read.cls) (hr : meth.sig.returnType = (some .int)) (hk : meth.locks = false) (K : va_K D vwCl (tyL cy) s) (E : EV ee A s s.heap) (hA : ∀ q, s.heap.size ≤ q → A q) : ∀ (st : StT) (x1 : Int32), f_X12_read_37 n st x1 = some res → ∀ (H : Heap) (locs : List Loc) (ls : Array Slot), ZG D (wM ad cy st) A s H locs → lv_has ls 3 [(0, .ref (ad 0)), (1, .int x1)] → W p l e { frames := 6, cells := 0, slots := 0, locals := 137 } s m args below meth c H locs 0 0 (MQ below (QC D (some (.int res.1)) (wM ad cy res.2) A) args s 0 0 A) (F0 m 37 ls []) := by
  have hx := F.1
  have hb := F.2.1
  intro st x1 hf H locs ls Z hl
  unfold f_X12_read_37 at hf
  refine lv_aload_n hx hb dX12_read_37 rfl (lv_at hl 0 rfl) ?_
  refine lv_aload_n hx hb dX12_read_38 rfl (lv_at hl 0 rfl) ?_
  refine gmX12_257 F K Z dX12_read_39 ?_
  refine lv_if_ne (tgt := 49) hx hb dX12_read_42 (by decide) (fun c42 => ?_) (fun c42 => ?_)
  · have hf := if_f c42 hf
    refine lv_aload_n hx hb dX12_read_49 rfl (lv_at hl 0 rfl) ?_
    refine gmX12_260 F K Z dX12_read_50 ?_
    exact b_X12_read_53 F hr hk K E hA _ _ _ hf _ _ _ Z hl
  have hf := if_t c42 hf
  refine lv_iconst (v := -1) hx hb dX12_read_45 (by decide) ?_
  refine lv_goto (tgt := 53) hx hb dX12_read_46 (by decide) ?_
  exact b_X12_read_53 F hr hk K E hA _ _ _ hf _ _ _ Z hl
set_option maxRecDepth 100000 in
set_option maxHeartbeats 4000000 in
theorem c_X12_read {l : Launch} {D : va_G} {ad : Nat → Nat} {cy : Nat → ClassId} {ee : EE} {n : Nat} {st : StT} {res : (Int32 × StT)} (hf : f_X12_read n st = some res) : CT l yX12_read cX12_read 3 (some .int) 6 137 D cy ee (wM ad cy st) (wM ad cy res.2) [.ref (ad 0)] (some (.int res.1)) := by
  refine CT.of (by decide +kernel) (Nat.le_of_ble_eq_true rfl) ?_
  intro p e s m args below meth c A F hr hk K E hA Z ls hl
  have hl : lv_has ls 3 [(0, .ref (ad 0))] := hl
  have hx := F.1
  have hb := F.2.1
  unfold f_X12_read at hf
  refine lv_aload_n hx hb dX12_read_0 rfl (lv_at hl 0 rfl) ?_
  refine lv_iconst (v := 0) hx hb dX12_read_1 (by decide) ?_
  obtain ⟨q2, h2, hf⟩ := bind_some hf
  refine krX12_511_X12_beginText F K E hA Z h2 ⟨Nat.le_of_ble_eq_true rfl, Nat.le_of_ble_eq_true rfl⟩ hl.1 (Nat.le_of_ble_eq_true rfl) dX12_read_2 (fun H locs Z => ?_)
  refine lv_aload_n hx hb dX12_read_5 rfl (lv_at hl 0 rfl) ?_
  obtain ⟨q6, h6, hf⟩ := bind_some hf
  refine krX12_460_X12_readFormula F K E hA Z h6 ⟨Nat.le_of_ble_eq_true rfl, Nat.le_of_ble_eq_true rfl⟩ hl.1 (Nat.le_of_ble_eq_true rfl) dX12_read_6 (fun H locs Z => ?_)
  refine lv_istore_n (lv' := [(1, .int q6.1), (0, .ref (ad 0))]) hx hb dX12_read_9 rfl hl (by decide) rfl (fun ls hl => ?_)
  refine lv_aload_n hx hb dX12_read_10 rfl (lv_at hl 1 rfl) ?_
  refine gmX12_257 F K Z dX12_read_11 ?_
  refine lv_if_ne (tgt := 37) hx hb dX12_read_14 (by decide) (fun c14 => ?_) (fun c14 => ?_)
  · have hf := if_f c14 hf
    exact b_X12_read_37 F hr hk K E hA _ _ hf _ _ _ Z (lv_sub hl [1, 0] rfl)
  have hf := if_t c14 hf
  refine lv_aload_n hx hb dX12_read_17 rfl (lv_at hl 1 rfl) ?_
  obtain ⟨q18, h18, hf⟩ := bind_some hf
  refine krX12_270_X12_look F K E hA Z h18 ⟨Nat.le_of_ble_eq_true rfl, Nat.le_of_ble_eq_true rfl⟩ hl.1 (Nat.le_of_ble_eq_true rfl) dX12_read_18 (fun H locs Z => ?_)
  refine lv_sipush (v := 256) hx hb dX12_read_21 (by decide) ?_
  refine lv_icmp_eq (tgt := 37) hx hb dX12_read_24 (by decide) (fun c24 => ?_) (fun c24 => ?_)
  · have hf := if_t c24 hf
    exact b_X12_read_37 F hr hk K E hA _ _ hf _ _ _ Z (lv_sub hl [1, 0] rfl)
  have hf := if_f c24 hf
  refine lv_aload_n hx hb dX12_read_27 rfl (lv_at hl 1 rfl) ?_
  refine lv_iconst (v := 2) hx hb dX12_read_28 (by decide) ?_
  refine lv_aload_n hx hb dX12_read_29 rfl (lv_at hl 1 rfl) ?_
  refine gmX12_227 F K Z dX12_read_30 ?_
  obtain ⟨q33, h33, hf⟩ := bind_some hf
  refine krX12_266_X12_fail F K E hA Z h33 ⟨Nat.le_of_ble_eq_true rfl, Nat.le_of_ble_eq_true rfl⟩ hl.1 (Nat.le_of_ble_eq_true rfl) dX12_read_33 (fun H locs Z => ?_)
  refine lv_istore_n (lv' := [(2, .int q33.1), (1, .int q6.1), (0, .ref (ad 0))]) hx hb dX12_read_36 rfl hl (by decide) rfl (fun ls hl => ?_)
  exact b_X12_read_37 F hr hk K E hA _ _ hf _ _ _ Z (lv_sub hl [2, 1] rfl)
def f_X12_place (n : Nat) (st : StT) : Option (Int32 × StT) := some ((st.1 12), st)
section
variable {p : Program} {l : Launch} {e : Env} {R : Room} {s : State} {m : MethodId} {args : Array Value} {below : List Frame} {meth : Method} {c : Code} {H : Heap} {locs : List Loc} {Q : State → Prop}
variable {cc : ByteArray} {nL pc : Nat} {ls : Array Slot} {rest : List Value} {D : va_G} {A : Nat → Prop} {cw : Cond} {ad : Nat → Nat} {cy : Nat → ClassId} {ee : EE} {st : StT} {own : String}
theorem gmX12_31 (F : CallFix p m c cc nL s args (cw :: Gw) RX12) (K : va_K D vwCl (tyL cy) s) (Z : ZG D (wM ad cy st) A s H locs) (hd : decode cc pc = .ok (.getfield 31, 3)) (kk : W p l e R s m args below meth c H locs 0 0 Q (F0 m (pc + 3) ls (.int (st.1 12) :: rest))) : W p l e R s m args below meth c H locs 0 0 Q (F0 m pc ls (.ref (ad 0) :: rest)) :=
  va_get (D := D) (ci := 12) (C := RX12) (T := TX12) (N := 98) F.1 F.2.1 F.2.2.2.2 (fun w h => List.mem_cons_of_mem _ (inG_X12 w h)) F.2.2.2.1 K Z.1 0 rfl rfl 19 (by decide) (F.2.2.2.2 _ (List.mem_cons_of_mem _ wd1341)) (fun _ h => h) rfl hd kk
end
set_option maxRecDepth 100000 in
set_option maxHeartbeats 4000000 in
theorem c_X12_place {l : Launch} {D : va_G} {ad : Nat → Nat} {cy : Nat → ClassId} {ee : EE} {n : Nat} {st : StT} {res : (Int32 × StT)} (hf : f_X12_place n st = some res) : CT l yX12_place cX12_place 1 (some .int) 0 0 D cy ee (wM ad cy st) (wM ad cy res.2) [.ref (ad 0)] (some (.int res.1)) := by
  refine CT.of (by decide +kernel) (Nat.le_of_ble_eq_true rfl) ?_
  intro p e s m args below meth c A F hr hk K E hA Z ls hl
  have hl : lv_has ls 1 [(0, .ref (ad 0))] := hl
  have hx := F.1
  have hb := F.2.1
  unfold f_X12_place at hf
  refine lv_aload_n hx hb dX12_place_0 rfl (lv_at hl 0 rfl) ?_
  refine gmX12_31 F K Z dX12_place_1 ?_
  have hf := Option.some.inj hf
  subst hf
  exact ret_i F hr hk Z dX12_place_4
def f_X12_count (n : Nat) (st : StT) (x1 : Int32) : Option (Int32 × StT) := if x1 = 0 then (some ((st.1 0), st)) else (if x1 = (1 : Int32) then (some ((st.1 2), st)) else (if x1 = (2 : Int32) then (some ((st.1 16), st)) else (if x1 = (3 : Int32) then (some ((st.1 36), st)) else (some ((-2 : Int32), st)))))
theorem wd1346 : Cond.fieldLink RX12 515 "WorldProverModel" "givenCount" "I" ∈ Gw := gT6 (List.mem_of_getElem? (i := 84) rfl) rfl
section
variable {p : Program} {l : Launch} {e : Env} {R : Room} {s : State} {m : MethodId} {args : Array Value} {below : List Frame} {meth : Method} {c : Code} {H : Heap} {locs : List Loc} {Q : State → Prop}
variable {cc : ByteArray} {nL pc : Nat} {ls : Array Slot} {rest : List Value} {D : va_G} {A : Nat → Prop} {cw : Cond} {ad : Nat → Nat} {cy : Nat → ClassId} {ee : EE} {st : StT} {own : String}
theorem gmX12_515 (F : CallFix p m c cc nL s args (cw :: Gw) RX12) (K : va_K D vwCl (tyL cy) s) (Z : ZG D (wM ad cy st) A s H locs) (hd : decode cc pc = .ok (.getfield 515, 3)) (kk : W p l e R s m args below meth c H locs 0 0 Q (F0 m (pc + 3) ls (.int (st.1 16) :: rest))) : W p l e R s m args below meth c H locs 0 0 Q (F0 m pc ls (.ref (ad 0) :: rest)) :=
  va_get (D := D) (ci := 12) (C := RX12) (T := TX12) (N := 98) F.1 F.2.1 F.2.2.2.2 (fun w h => List.mem_cons_of_mem _ (inG_X12 w h)) F.2.2.2.1 K Z.1 0 rfl rfl 26 (by decide) (F.2.2.2.2 _ (List.mem_cons_of_mem _ wd1346)) (fun _ h => h) rfl hd kk
end
set_option maxRecDepth 100000 in
set_option maxHeartbeats 4000000 in
theorem c_X12_count {l : Launch} {D : va_G} {ad : Nat → Nat} {cy : Nat → ClassId} {ee : EE} {n : Nat} {st : StT} {x1 : Int32} {res : (Int32 × StT)} (hf : f_X12_count n st x1 = some res) : CT l yX12_count cX12_count 2 (some .int) 0 0 D cy ee (wM ad cy st) (wM ad cy res.2) [.ref (ad 0), .int x1] (some (.int res.1)) := by
  refine CT.of (by decide +kernel) (Nat.le_of_ble_eq_true rfl) ?_
  intro p e s m args below meth c A F hr hk K E hA Z ls hl
  have hl : lv_has ls 2 [(0, .ref (ad 0)), (1, .int x1)] := hl
  have hx := F.1
  have hb := F.2.1
  unfold f_X12_count at hf
  refine lv_iload_n hx hb dX12_count_0 rfl (lv_at hl 1 rfl) ?_
  refine lv_if_ne (tgt := 11) hx hb dX12_count_1 (by decide) (fun c1 => ?_) (fun c1 => ?_)
  · have hf := if_f c1 hf
    refine lv_iload_n hx hb dX12_count_11 rfl (lv_at hl 1 rfl) ?_
    refine lv_iconst (v := 1) hx hb dX12_count_12 (by decide) ?_
    refine lv_icmp_ne (tgt := 23) hx hb dX12_count_13 (by decide) (fun c13 => ?_) (fun c13 => ?_)
    · have hf := if_f c13 hf
      refine lv_iload_n hx hb dX12_count_23 rfl (lv_at hl 1 rfl) ?_
      refine lv_iconst (v := 2) hx hb dX12_count_24 (by decide) ?_
      refine lv_icmp_ne (tgt := 35) hx hb dX12_count_25 (by decide) (fun c25 => ?_) (fun c25 => ?_)
      · have hf := if_f c25 hf
        refine lv_iload_n hx hb dX12_count_35 rfl (lv_at hl 1 rfl) ?_
        refine lv_iconst (v := 3) hx hb dX12_count_36 (by decide) ?_
        refine lv_icmp_ne (tgt := 47) hx hb dX12_count_37 (by decide) (fun c37 => ?_) (fun c37 => ?_)
        · have hf := if_f c37 hf
          refine lv_bipush (v := -2) hx hb dX12_count_47 (by decide) ?_
          have hf := Option.some.inj hf
          subst hf
          exact ret_i F hr hk Z dX12_count_49
        have hf := if_t c37 hf
        refine lv_aload_n hx hb dX12_count_40 rfl (lv_at hl 0 rfl) ?_
        refine gmX12_207 F K Z dX12_count_41 ?_
        refine lv_goto (tgt := 49) hx hb dX12_count_44 (by decide) ?_
        have hf := Option.some.inj hf
        subst hf
        exact ret_i F hr hk Z dX12_count_49
      have hf := if_t c25 hf
      refine lv_aload_n hx hb dX12_count_28 rfl (lv_at hl 0 rfl) ?_
      refine gmX12_515 F K Z dX12_count_29 ?_
      refine lv_goto (tgt := 49) hx hb dX12_count_32 (by decide) ?_
      have hf := Option.some.inj hf
      subst hf
      exact ret_i F hr hk Z dX12_count_49
    have hf := if_t c13 hf
    refine lv_aload_n hx hb dX12_count_16 rfl (lv_at hl 0 rfl) ?_
    refine gmX12_280 F K Z dX12_count_17 ?_
    refine lv_goto (tgt := 49) hx hb dX12_count_20 (by decide) ?_
    have hf := Option.some.inj hf
    subst hf
    exact ret_i F hr hk Z dX12_count_49
  have hf := if_t c1 hf
  refine lv_aload_n hx hb dX12_count_4 rfl (lv_at hl 0 rfl) ?_
  refine gmX12_204 F K Z dX12_count_5 ?_
  refine lv_goto (tgt := 49) hx hb dX12_count_8 (by decide) ?_
  have hf := Option.some.inj hf
  subst hf
  exact ret_i F hr hk Z dX12_count_49
def f_X12_formula (n : Nat) (st : StT) (x1 : Int32) (x2 : Int32) : Option (Int32 × StT) := (f_X12_isFormula n st x1).bind fun q2 => (if q2.1 = 0 then (some ((-1 : Int32), q2.2)) else (if x2 = 0 then (if inB x1 4200 = true then (some ((q2.2.2.1 0 (x1).toNatClampNeg), q2.2)) else none) else (if x2 = (1 : Int32) then (if inB x1 4200 = true then (some ((q2.2.2.1 1 (x1).toNatClampNeg), q2.2)) else none) else (if x2 = (2 : Int32) then (if inB x1 4200 = true then (some ((q2.2.2.1 2 (x1).toNatClampNeg), q2.2)) else none) else (some ((-2 : Int32), q2.2))))))
set_option maxRecDepth 100000 in
set_option maxHeartbeats 4000000 in
theorem c_X12_formula {l : Launch} {D : va_G} {ad : Nat → Nat} {cy : Nat → ClassId} {ee : EE} {n : Nat} {st : StT} {x1 : Int32} {x2 : Int32} {res : (Int32 × StT)} (hf : f_X12_formula n st x1 x2 = some res) : CT l yX12_formula cX12_formula 3 (some .int) 1 21 D cy ee (wM ad cy st) (wM ad cy res.2) [.ref (ad 0), .int x1, .int x2] (some (.int res.1)) := by
  refine CT.of (by decide +kernel) (Nat.le_of_ble_eq_true rfl) ?_
  intro p e s m args below meth c A F hr hk K E hA Z ls hl
  have hl : lv_has ls 3 [(0, .ref (ad 0)), (1, .int x1), (2, .int x2)] := hl
  have hx := F.1
  have hb := F.2.1
  unfold f_X12_formula at hf
  refine lv_aload_n hx hb dX12_formula_0 rfl (lv_at hl 0 rfl) ?_
  refine lv_iload_n hx hb dX12_formula_1 rfl (lv_at hl 1 rfl) ?_
  obtain ⟨q2, h2, hf⟩ := bind_some hf
  refine krX12_490_X12_isFormula F K E hA Z h2 ⟨Nat.le_of_ble_eq_true rfl, Nat.le_of_ble_eq_true rfl⟩ hl.1 (Nat.le_of_ble_eq_true rfl) dX12_formula_2 (fun H locs Z => ?_)
  refine lv_if_ne (tgt := 10) hx hb dX12_formula_5 (by decide) (fun c5 => ?_) (fun c5 => ?_)
  · have hf := if_f c5 hf
    refine lv_iload_n hx hb dX12_formula_10 rfl (lv_at hl 2 rfl) ?_
    refine lv_if_ne (tgt := 23) hx hb dX12_formula_11 (by decide) (fun c11 => ?_) (fun c11 => ?_)
    · have hf := if_f c11 hf
      refine lv_iload_n hx hb dX12_formula_23 rfl (lv_at hl 2 rfl) ?_
      refine lv_iconst (v := 1) hx hb dX12_formula_24 (by decide) ?_
      refine lv_icmp_ne (tgt := 37) hx hb dX12_formula_25 (by decide) (fun c25 => ?_) (fun c25 => ?_)
      · have hf := if_f c25 hf
        refine lv_iload_n hx hb dX12_formula_37 rfl (lv_at hl 2 rfl) ?_
        refine lv_iconst (v := 2) hx hb dX12_formula_38 (by decide) ?_
        refine lv_icmp_ne (tgt := 51) hx hb dX12_formula_39 (by decide) (fun c39 => ?_) (fun c39 => ?_)
        · have hf := if_f c39 hf
          refine lv_bipush (v := -2) hx hb dX12_formula_51 (by decide) ?_
          have hf := Option.some.inj hf
          subst hf
          exact ret_i F hr hk Z dX12_formula_53
        have hf := if_t c39 hf
        refine lv_aload_n hx hb dX12_formula_42 rfl (lv_at hl 0 rfl) ?_
        refine gmX12_16 F K Z dX12_formula_43 ?_
        refine lv_iload_n hx hb dX12_formula_46 rfl (lv_at hl 1 rfl) ?_
        obtain ⟨i47, hf⟩ := if_some hf
        refine ml3 F K Z i47 dX12_formula_47 ?_
        refine lv_goto (tgt := 53) hx hb dX12_formula_48 (by decide) ?_
        have hf := Option.some.inj hf
        subst hf
        exact ret_i F hr hk Z dX12_formula_53
      have hf := if_t c25 hf
      refine lv_aload_n hx hb dX12_formula_28 rfl (lv_at hl 0 rfl) ?_
      refine gmX12_13 F K Z dX12_formula_29 ?_
      refine lv_iload_n hx hb dX12_formula_32 rfl (lv_at hl 1 rfl) ?_
      obtain ⟨i33, hf⟩ := if_some hf
      refine ml2 F K Z i33 dX12_formula_33 ?_
      refine lv_goto (tgt := 53) hx hb dX12_formula_34 (by decide) ?_
      have hf := Option.some.inj hf
      subst hf
      exact ret_i F hr hk Z dX12_formula_53
    have hf := if_t c11 hf
    refine lv_aload_n hx hb dX12_formula_14 rfl (lv_at hl 0 rfl) ?_
    refine gmX12_7 F K Z dX12_formula_15 ?_
    refine lv_iload_n hx hb dX12_formula_18 rfl (lv_at hl 1 rfl) ?_
    obtain ⟨i19, hf⟩ := if_some hf
    refine ml1 F K Z i19 dX12_formula_19 ?_
    refine lv_goto (tgt := 53) hx hb dX12_formula_20 (by decide) ?_
    have hf := Option.some.inj hf
    subst hf
    exact ret_i F hr hk Z dX12_formula_53
  have hf := if_t c5 hf
  refine lv_iconst (v := -1) hx hb dX12_formula_8 (by decide) ?_
  have hf := Option.some.inj hf
  subst hf
  exact ret_i F hr hk Z dX12_formula_9
def f_X12_make (n : Nat) (st : StT) (x1 : Int32) (x2 : Int32) (x3 : Int32) : Option (Int32 × StT) := (f_X12_isFormula n st x2).bind fun q2 => (if q2.1 = 0 then (some ((-1 : Int32), q2.2)) else ((f_X12_isFormula n q2.2 x3).bind fun q10 => (if q10.1 = 0 then (some ((-1 : Int32), q10.2)) else (if x1 < (3 : Int32) then (some ((-2 : Int32), q10.2)) else (if x1 ≤ (5 : Int32) then ((f_X12_formulaOf n q10.2 x1 x2 x3).bind fun q35 => (if 0 ≤ q35.1 then (some (q35.1, q35.2)) else (some ((-4 : Int32), q35.2)))) else (some ((-2 : Int32), q10.2)))))))
set_option maxRecDepth 100000 in
set_option maxHeartbeats 4000000 in
theorem c_X12_make {l : Launch} {D : va_G} {ad : Nat → Nat} {cy : Nat → ClassId} {ee : EE} {n : Nat} {st : StT} {x1 : Int32} {x2 : Int32} {x3 : Int32} {res : (Int32 × StT)} (hf : f_X12_make n st x1 x2 x3 = some res) : CT l yX12_make cX12_make 5 (some .int) 2 48 D cy ee (wM ad cy st) (wM ad cy res.2) [.ref (ad 0), .int x1, .int x2, .int x3] (some (.int res.1)) := by
  refine CT.of (by decide +kernel) (Nat.le_of_ble_eq_true rfl) ?_
  intro p e s m args below meth c A F hr hk K E hA Z ls hl
  have hl : lv_has ls 5 [(0, .ref (ad 0)), (1, .int x1), (2, .int x2), (3, .int x3)] := hl
  have hx := F.1
  have hb := F.2.1
  unfold f_X12_make at hf
  refine lv_aload_n hx hb dX12_make_0 rfl (lv_at hl 0 rfl) ?_
  refine lv_iload_n hx hb dX12_make_1 rfl (lv_at hl 2 rfl) ?_
  obtain ⟨q2, h2, hf⟩ := bind_some hf
  refine krX12_490_X12_isFormula F K E hA Z h2 ⟨Nat.le_of_ble_eq_true rfl, Nat.le_of_ble_eq_true rfl⟩ hl.1 (Nat.le_of_ble_eq_true rfl) dX12_make_2 (fun H locs Z => ?_)
  refine lv_if_eq (tgt := 16) hx hb dX12_make_5 (by decide) (fun c5 => ?_) (fun c5 => ?_)
  · have hf := if_t c5 hf
    refine lv_iconst (v := -1) hx hb dX12_make_16 (by decide) ?_
    have hf := Option.some.inj hf
    subst hf
    exact ret_i F hr hk Z dX12_make_17
  have hf := if_f c5 hf
  refine lv_aload_n hx hb dX12_make_8 rfl (lv_at hl 0 rfl) ?_
  refine lv_iload_n hx hb dX12_make_9 rfl (lv_at hl 3 rfl) ?_
  obtain ⟨q10, h10, hf⟩ := bind_some hf
  refine krX12_490_X12_isFormula F K E hA Z h10 ⟨Nat.le_of_ble_eq_true rfl, Nat.le_of_ble_eq_true rfl⟩ hl.1 (Nat.le_of_ble_eq_true rfl) dX12_make_10 (fun H locs Z => ?_)
  refine lv_if_ne (tgt := 18) hx hb dX12_make_13 (by decide) (fun c13 => ?_) (fun c13 => ?_)
  · have hf := if_f c13 hf
    refine lv_iload_n hx hb dX12_make_18 rfl (lv_at hl 1 rfl) ?_
    refine lv_iconst (v := 3) hx hb dX12_make_19 (by decide) ?_
    refine lv_icmp_lt (tgt := 28) hx hb dX12_make_20 (by decide) (fun c20 => ?_) (fun c20 => ?_)
    · have hf := if_t c20 hf
      refine lv_bipush (v := -2) hx hb dX12_make_28 (by decide) ?_
      have hf := Option.some.inj hf
      subst hf
      exact ret_i F hr hk Z dX12_make_30
    have hf := if_f c20 hf
    refine lv_iload_n hx hb dX12_make_23 rfl (lv_at hl 1 rfl) ?_
    refine lv_iconst (v := 5) hx hb dX12_make_24 (by decide) ?_
    refine lv_icmp_le (tgt := 31) hx hb dX12_make_25 (by decide) (fun c25 => ?_) (fun c25 => ?_)
    · have hf := if_t c25 hf
      refine lv_aload_n hx hb dX12_make_31 rfl (lv_at hl 0 rfl) ?_
      refine lv_iload_n hx hb dX12_make_32 rfl (lv_at hl 1 rfl) ?_
      refine lv_iload_n hx hb dX12_make_33 rfl (lv_at hl 2 rfl) ?_
      refine lv_iload_n hx hb dX12_make_34 rfl (lv_at hl 3 rfl) ?_
      obtain ⟨q35, h35, hf⟩ := bind_some hf
      refine krX12_283_X12_formulaOf F K E hA Z h35 ⟨Nat.le_of_ble_eq_true rfl, Nat.le_of_ble_eq_true rfl⟩ hl.1 (Nat.le_of_ble_eq_true rfl) dX12_make_35 (fun H locs Z => ?_)
      refine lv_istore (lv' := [(4, .int q35.1), (0, .ref (ad 0)), (1, .int x1), (2, .int x2), (3, .int x3)]) hx hb dX12_make_38 hl (by decide) rfl (fun ls hl => ?_)
      refine lv_iload hx hb dX12_make_40 (lv_at hl 0 rfl) ?_
      refine lv_if_ge (tgt := 50) hx hb dX12_make_42 (by decide) (fun c42 => ?_) (fun c42 => ?_)
      · have hf := if_t c42 hf
        refine lv_iload hx hb dX12_make_50 (lv_at hl 0 rfl) ?_
        have hf := Option.some.inj hf
        subst hf
        exact ret_i F hr hk Z dX12_make_52
      have hf := if_f c42 hf
      refine lv_bipush (v := -4) hx hb dX12_make_45 (by decide) ?_
      refine lv_goto (tgt := 52) hx hb dX12_make_47 (by decide) ?_
      have hf := Option.some.inj hf
      subst hf
      exact ret_i F hr hk Z dX12_make_52
    have hf := if_f c25 hf
    refine lv_bipush (v := -2) hx hb dX12_make_28 (by decide) ?_
    have hf := Option.some.inj hf
    subst hf
    exact ret_i F hr hk Z dX12_make_30
  have hf := if_t c13 hf
  refine lv_iconst (v := -1) hx hb dX12_make_16 (by decide) ?_
  have hf := Option.some.inj hf
  subst hf
  exact ret_i F hr hk Z dX12_make_17
def f_X12_given (n : Nat) (st : StT) (x1 : Int32) : Option (Int32 × StT) := (f_X12_isFormula n st x1).bind fun q2 => (if q2.1 = 0 then (some ((-1 : Int32), q2.2)) else (if (q2.2.1 16) = (20 : Int32) then (some ((-4 : Int32), q2.2)) else (if inB (q2.2.1 16) 20 = true then (some (((uF (uA q2.2 9 (q2.2.1 16) x1) 16 (((uA q2.2 9 (q2.2.1 16) x1).1 16) + (1 : Int32))).1 16), (uF (uA q2.2 9 (q2.2.1 16) x1) 16 (((uA q2.2 9 (q2.2.1 16) x1).1 16) + (1 : Int32))))) else none)))
theorem wd1347 : Cond.fieldLink RX12 42 "WorldProverModel" "given" "[I" ∈ Gw := gT6 (List.mem_of_getElem? (i := 83) rfl) rfl
section
variable {p : Program} {l : Launch} {e : Env} {R : Room} {s : State} {m : MethodId} {args : Array Value} {below : List Frame} {meth : Method} {c : Code} {H : Heap} {locs : List Loc} {Q : State → Prop}
variable {cc : ByteArray} {nL pc : Nat} {ls : Array Slot} {rest : List Value} {D : va_G} {A : Nat → Prop} {cw : Cond} {ad : Nat → Nat} {cy : Nat → ClassId} {ee : EE} {st : StT} {own : String}
theorem gmX12_42 (F : CallFix p m c cc nL s args (cw :: Gw) RX12) (K : va_K D vwCl (tyL cy) s) (Z : ZG D (wM ad cy st) A s H locs) (hd : decode cc pc = .ok (.getfield 42, 3)) (kk : W p l e R s m args below meth c H locs 0 0 Q (F0 m (pc + 3) ls (.ref (ad 10) :: rest))) : W p l e R s m args below meth c H locs 0 0 Q (F0 m pc ls (.ref (ad 0) :: rest)) :=
  va_get (D := D) (ci := 12) (C := RX12) (T := TX12) (N := 98) F.1 F.2.1 F.2.2.2.2 (fun w h => List.mem_cons_of_mem _ (inG_X12 w h)) F.2.2.2.1 K Z.1 0 rfl rfl 25 (by decide) (F.2.2.2.2 _ (List.mem_cons_of_mem _ wd1347)) (fun _ h => h) rfl hd kk
theorem ms10 {i : Int32} {v : Int32} (F : CallFix p m c cc nL s args (cw :: Gw) own) (K : va_K D vwCl (tyL cy) s) (Z : ZG D (wM ad cy st) A s H locs) (hi : inB i 20 = true) (hd : decode cc pc = .ok (.iastore, 1)) (kk : ∀ (H1 : Heap) (locs1 : List Loc), ZG D (wM ad cy (uA st 9 i v)) A s H1 locs1 → W p l e R s m args below meth c H1 locs1 0 0 Q (F0 m (pc + 1) ls rest)) : W p l e R s m args below meth c H locs 0 0 Q (F0 m pc ls (.int v :: .int i :: .ref (ad 10) :: rest)) :=
  va_iast F.1 F.2.1 K Z.1 Z.2.1 Z.2.2 10 1 rfl rfl (inB_vp hi) hd (fun H1 locs1 hP hD hS => kk H1 locs1 ⟨hP, hD, hS⟩)
theorem pmX12_515 {v : Int32} (F : CallFix p m c cc nL s args (cw :: Gw) RX12) (K : va_K D vwCl (tyL cy) s) (Z : ZG D (wM ad cy st) A s H locs) (hd : decode cc pc = .ok (.putfield 515, 3)) (kk : ∀ (H1 : Heap) (locs1 : List Loc), ZG D (wM ad cy (uF st 16 v)) A s H1 locs1 → W p l e R s m args below meth c H1 locs1 0 0 Q (F0 m (pc + 3) ls rest)) : W p l e R s m args below meth c H locs 0 0 Q (F0 m pc ls (.int v :: .ref (ad 0) :: rest)) :=
  va_put (D := D) (ci := 12) (v := .int v) (ty := .int) (C := RX12) (T := TX12) (N := 98) F.1 F.2.1 F.2.2.2.2 (fun w h => List.mem_cons_of_mem _ (inG_X12 w h)) tyX12 tyX12_ok nmX12 F.2.2.2.1 K Z.1 Z.2.1 Z.2.2 0 rfl rfl 26 (by decide) (F.2.2.2.2 _ (List.mem_cons_of_mem _ wd1346)) (fun _ h => h) rfl (by decide +kernel) rfl rfl (Nat.le_of_ble_eq_true rfl) hd (fun H1 locs1 hP hD hS => kk H1 locs1 ⟨hP, hD, hS⟩)
end
set_option maxRecDepth 100000 in
set_option maxHeartbeats 4000000 in
theorem c_X12_given {l : Launch} {D : va_G} {ad : Nat → Nat} {cy : Nat → ClassId} {ee : EE} {n : Nat} {st : StT} {x1 : Int32} {res : (Int32 × StT)} (hf : f_X12_given n st x1 = some res) : CT l yX12_given cX12_given 2 (some .int) 1 21 D cy ee (wM ad cy st) (wM ad cy res.2) [.ref (ad 0), .int x1] (some (.int res.1)) := by
  refine CT.of (by decide +kernel) (Nat.le_of_ble_eq_true rfl) ?_
  intro p e s m args below meth c A F hr hk K E hA Z ls hl
  have hl : lv_has ls 2 [(0, .ref (ad 0)), (1, .int x1)] := hl
  have hx := F.1
  have hb := F.2.1
  unfold f_X12_given at hf
  refine lv_aload_n hx hb dX12_given_0 rfl (lv_at hl 0 rfl) ?_
  refine lv_iload_n hx hb dX12_given_1 rfl (lv_at hl 1 rfl) ?_
  obtain ⟨q2, h2, hf⟩ := bind_some hf
  refine krX12_490_X12_isFormula F K E hA Z h2 ⟨Nat.le_of_ble_eq_true rfl, Nat.le_of_ble_eq_true rfl⟩ hl.1 (Nat.le_of_ble_eq_true rfl) dX12_given_2 (fun H locs Z => ?_)
  refine lv_if_ne (tgt := 10) hx hb dX12_given_5 (by decide) (fun c5 => ?_) (fun c5 => ?_)
  · have hf := if_f c5 hf
    refine lv_aload_n hx hb dX12_given_10 rfl (lv_at hl 0 rfl) ?_
    refine gmX12_515 F K Z dX12_given_11 ?_
    refine lv_bipush (v := 20) hx hb dX12_given_14 (by decide) ?_
    refine lv_icmp_ne (tgt := 22) hx hb dX12_given_16 (by decide) (fun c16 => ?_) (fun c16 => ?_)
    · have hf := if_f c16 hf
      refine lv_aload_n hx hb dX12_given_22 rfl (lv_at hl 0 rfl) ?_
      refine gmX12_42 F K Z dX12_given_23 ?_
      refine lv_aload_n hx hb dX12_given_26 rfl (lv_at hl 0 rfl) ?_
      refine gmX12_515 F K Z dX12_given_27 ?_
      refine lv_iload_n hx hb dX12_given_30 rfl (lv_at hl 1 rfl) ?_
      obtain ⟨i31, hf⟩ := if_some hf
      refine ms10 F K Z i31 dX12_given_31 (fun H locs Z => ?_)
      refine lv_aload_n hx hb dX12_given_32 rfl (lv_at hl 0 rfl) ?_
      refine lv_dup hx hb dX12_given_33 rfl ?_
      refine gmX12_515 F K Z dX12_given_34 ?_
      refine lv_iconst (v := 1) hx hb dX12_given_37 (by decide) ?_
      refine lv_iadd hx hb dX12_given_38 ?_
      refine pmX12_515 F K Z dX12_given_39 (fun H locs Z => ?_)
      refine lv_aload_n hx hb dX12_given_42 rfl (lv_at hl 0 rfl) ?_
      refine gmX12_515 F K Z dX12_given_43 ?_
      have hf := Option.some.inj hf
      subst hf
      exact ret_i F hr hk Z dX12_given_46
    have hf := if_t c16 hf
    refine lv_bipush (v := -4) hx hb dX12_given_19 (by decide) ?_
    have hf := Option.some.inj hf
    subst hf
    exact ret_i F hr hk Z dX12_given_21
  have hf := if_t c5 hf
  refine lv_iconst (v := -1) hx hb dX12_given_8 (by decide) ?_
  have hf := Option.some.inj hf
  subst hf
  exact ret_i F hr hk Z dX12_given_9
def f_X12_forget (n : Nat) (st : StT) : Option (Int32 × StT) := some ((st.1 16), (uF st 16 (0 : Int32)))
set_option maxRecDepth 100000 in
set_option maxHeartbeats 4000000 in
theorem c_X12_forget {l : Launch} {D : va_G} {ad : Nat → Nat} {cy : Nat → ClassId} {ee : EE} {n : Nat} {st : StT} {res : (Int32 × StT)} (hf : f_X12_forget n st = some res) : CT l yX12_forget cX12_forget 2 (some .int) 0 0 D cy ee (wM ad cy st) (wM ad cy res.2) [.ref (ad 0)] (some (.int res.1)) := by
  refine CT.of (by decide +kernel) (Nat.le_of_ble_eq_true rfl) ?_
  intro p e s m args below meth c A F hr hk K E hA Z ls hl
  have hl : lv_has ls 2 [(0, .ref (ad 0))] := hl
  have hx := F.1
  have hb := F.2.1
  unfold f_X12_forget at hf
  refine lv_aload_n hx hb dX12_forget_0 rfl (lv_at hl 0 rfl) ?_
  refine gmX12_515 F K Z dX12_forget_1 ?_
  refine lv_istore_n (lv' := [(1, .int (st.1 16)), (0, .ref (ad 0))]) hx hb dX12_forget_4 rfl hl (by decide) rfl (fun ls hl => ?_)
  refine lv_aload_n hx hb dX12_forget_5 rfl (lv_at hl 1 rfl) ?_
  refine lv_iconst (v := 0) hx hb dX12_forget_6 (by decide) ?_
  refine pmX12_515 F K Z dX12_forget_7 (fun H locs Z => ?_)
  refine lv_iload_n hx hb dX12_forget_10 rfl (lv_at hl 0 rfl) ?_
  have hf := Option.some.inj hf
  subst hf
  exact ret_i F hr hk Z dX12_forget_11
def f_X12_prove_88 (n : Nat) : Nat → StT → Int32 → Option (Int32 × StT)
  | 0, _, _ => none
  | k + 1, st, x3 => if (st.1 16) ≤ x3 then ((f_X12_search n st).bind fun q126 => (some (((uF (uF (uF q126.2 28 q126.1) 27 ((uF q126.2 28 q126.1).1 25)) 29 ((uF (uF q126.2 28 q126.1) 27 ((uF q126.2 28 q126.1).1 25)).1 26)).1 28), (uF (uF (uF q126.2 28 q126.1) 27 ((uF q126.2 28 q126.1).1 25)) 29 ((uF (uF q126.2 28 q126.1) 27 ((uF q126.2 28 q126.1).1 25)).1 26))))) else (if inB x3 20 = true then ((f_X12_hypothesis n st x3).bind fun q106 => ((f_X12_comes n q106.2 (0 : Int32) (st.2.1 9 (x3).toNatClampNeg) q106.1 (q106.2.1 16)).bind fun q113 => (f_X12_prove_88 n k q113.2 (x3 + (1 : Int32))))) else none)
def f_X12_prove (n : Nat) (st : StT) (x1 : Int32) (x2 : Int32) : Option (Int32 × StT) := (f_X12_isFormula n st x1).bind fun q2 => (if q2.1 = 0 then (some ((-1 : Int32), q2.2)) else (if x2 < 0 then (some ((-2 : Int32), q2.2)) else (if x2 ≤ (2000 : Int32) then (if inB (0 : Int32) 201 = true then (if inB (0 : Int32) 201 = true then (if inB (0 : Int32) 201 = true then (f_X12_prove_88 n n (uF (uA (uA (uA (uF (uF (uF (uF (uF (uF q2.2 18 (0 : Int32)) 30 (0 : Int32)) 20 (0 : Int32)) 21 x2) 22 (0 : Int32)) 23 (0 : Int32)) 22 (0 : Int32) (0 : Int32)) 23 (0 : Int32) x1) 24 (0 : Int32) ((uA (uA (uF (uF (uF (uF (uF (uF q2.2 18 (0 : Int32)) 30 (0 : Int32)) 20 (0 : Int32)) 21 x2) 22 (0 : Int32)) 23 (0 : Int32)) 22 (0 : Int32) (0 : Int32)) 23 (0 : Int32) x1).1 16)) 33 ((uA (uA (uA (uF (uF (uF (uF (uF (uF q2.2 18 (0 : Int32)) 30 (0 : Int32)) 20 (0 : Int32)) 21 x2) 22 (0 : Int32)) 23 (0 : Int32)) 22 (0 : Int32) (0 : Int32)) 23 (0 : Int32) x1) 24 (0 : Int32) ((uA (uA (uF (uF (uF (uF (uF (uF q2.2 18 (0 : Int32)) 30 (0 : Int32)) 20 (0 : Int32)) 21 x2) 22 (0 : Int32)) 23 (0 : Int32)) 22 (0 : Int32) (0 : Int32)) 23 (0 : Int32) x1).1 16)).1 16)) (0 : Int32)) else none) else none) else none) else (some ((-2 : Int32), q2.2)))))
theorem wd1348 : Cond.methodLink RX12 518 yX12_search ∈ Gw := gT8 (List.mem_of_getElem? (i := 105) rfl) rfl
theorem wd1349 : Cond.code yX12_search prog_14_method_42_code 3 (some .int) ∈ Gw := gT8 (List.mem_of_getElem? (i := 108) rfl) rfl
theorem wd1350 : Cond.instanceMethod yX12_search ∈ Gw := gT8 (List.mem_of_getElem? (i := 107) rfl) rfl
theorem wd1351 : Cond.selects RX12 yX12_search yX12_search ∈ Gw := gP7 (q := (yX12_search, 98)) (List.mem_of_getElem? (i := 11) rfl)
section
variable {p : Program} {l : Launch} {e : Env} {R : Room} {s : State} {m : MethodId} {args : Array Value} {below : List Frame} {meth : Method} {c : Code} {H : Heap} {locs : List Loc} {Q : State → Prop}
variable {cc : ByteArray} {nL pc : Nat} {ls : Array Slot} {rest : List Value} {D : va_G} {A : Nat → Prop} {cw : Cond} {ad : Nat → Nat} {cy : Nat → ClassId} {ee : EE} {st : StT} {own : String}
theorem pmX12_341 {v : Int32} (F : CallFix p m c cc nL s args (cw :: Gw) RX12) (K : va_K D vwCl (tyL cy) s) (Z : ZG D (wM ad cy st) A s H locs) (hd : decode cc pc = .ok (.putfield 341, 3)) (kk : ∀ (H1 : Heap) (locs1 : List Loc), ZG D (wM ad cy (uF st 21 v)) A s H1 locs1 → W p l e R s m args below meth c H1 locs1 0 0 Q (F0 m (pc + 3) ls rest)) : W p l e R s m args below meth c H locs 0 0 Q (F0 m pc ls (.int v :: .ref (ad 0) :: rest)) :=
  va_put (D := D) (ci := 12) (v := .int v) (ty := .int) (C := RX12) (T := TX12) (N := 98) F.1 F.2.1 F.2.2.2.2 (fun w h => List.mem_cons_of_mem _ (inG_X12 w h)) tyX12 tyX12_ok nmX12 F.2.2.2.1 K Z.1 Z.2.1 Z.2.2 0 rfl rfl 50 (by decide) (F.2.2.2.2 _ (List.mem_cons_of_mem _ wd1133)) (fun _ h => h) rfl (by decide +kernel) rfl rfl (Nat.le_of_ble_eq_true rfl) hd (fun H1 locs1 hP hD hS => kk H1 locs1 ⟨hP, hD, hS⟩)
theorem pmX12_445 {v : Int32} (F : CallFix p m c cc nL s args (cw :: Gw) RX12) (K : va_K D vwCl (tyL cy) s) (Z : ZG D (wM ad cy st) A s H locs) (hd : decode cc pc = .ok (.putfield 445, 3)) (kk : ∀ (H1 : Heap) (locs1 : List Loc), ZG D (wM ad cy (uF st 33 v)) A s H1 locs1 → W p l e R s m args below meth c H1 locs1 0 0 Q (F0 m (pc + 3) ls rest)) : W p l e R s m args below meth c H locs 0 0 Q (F0 m pc ls (.int v :: .ref (ad 0) :: rest)) :=
  va_put (D := D) (ci := 12) (v := .int v) (ty := .int) (C := RX12) (T := TX12) (N := 98) F.1 F.2.1 F.2.2.2.2 (fun w h => List.mem_cons_of_mem _ (inG_X12 w h)) tyX12 tyX12_ok nmX12 F.2.2.2.1 K Z.1 Z.2.1 Z.2.2 0 rfl rfl 73 (by decide) (F.2.2.2.2 _ (List.mem_cons_of_mem _ wd1254)) (fun _ h => h) rfl (by decide +kernel) rfl rfl (Nat.le_of_ble_eq_true rfl) hd (fun H1 locs1 hP hD hS => kk H1 locs1 ⟨hP, hD, hS⟩)
theorem pmX12_103 {v : Int32} (F : CallFix p m c cc nL s args (cw :: Gw) RX12) (K : va_K D vwCl (tyL cy) s) (Z : ZG D (wM ad cy st) A s H locs) (hd : decode cc pc = .ok (.putfield 103, 3)) (kk : ∀ (H1 : Heap) (locs1 : List Loc), ZG D (wM ad cy (uF st 28 v)) A s H1 locs1 → W p l e R s m args below meth c H1 locs1 0 0 Q (F0 m (pc + 3) ls rest)) : W p l e R s m args below meth c H locs 0 0 Q (F0 m pc ls (.int v :: .ref (ad 0) :: rest)) :=
  va_put (D := D) (ci := 12) (v := .int v) (ty := .int) (C := RX12) (T := TX12) (N := 98) F.1 F.2.1 F.2.2.2.2 (fun w h => List.mem_cons_of_mem _ (inG_X12 w h)) tyX12 tyX12_ok nmX12 F.2.2.2.1 K Z.1 Z.2.1 Z.2.2 0 rfl rfl 57 (by decide) (F.2.2.2.2 _ (List.mem_cons_of_mem _ wd1253)) (fun _ h => h) rfl (by decide +kernel) rfl rfl (Nat.le_of_ble_eq_true rfl) hd (fun H1 locs1 hP hD hS => kk H1 locs1 ⟨hP, hD, hS⟩)
theorem pmX12_448 {v : Int32} (F : CallFix p m c cc nL s args (cw :: Gw) RX12) (K : va_K D vwCl (tyL cy) s) (Z : ZG D (wM ad cy st) A s H locs) (hd : decode cc pc = .ok (.putfield 448, 3)) (kk : ∀ (H1 : Heap) (locs1 : List Loc), ZG D (wM ad cy (uF st 27 v)) A s H1 locs1 → W p l e R s m args below meth c H1 locs1 0 0 Q (F0 m (pc + 3) ls rest)) : W p l e R s m args below meth c H locs 0 0 Q (F0 m pc ls (.int v :: .ref (ad 0) :: rest)) :=
  va_put (D := D) (ci := 12) (v := .int v) (ty := .int) (C := RX12) (T := TX12) (N := 98) F.1 F.2.1 F.2.2.2.2 (fun w h => List.mem_cons_of_mem _ (inG_X12 w h)) tyX12 tyX12_ok nmX12 F.2.2.2.1 K Z.1 Z.2.1 Z.2.2 0 rfl rfl 56 (by decide) (F.2.2.2.2 _ (List.mem_cons_of_mem _ wd1255)) (fun _ h => h) rfl (by decide +kernel) rfl rfl (Nat.le_of_ble_eq_true rfl) hd (fun H1 locs1 hP hD hS => kk H1 locs1 ⟨hP, hD, hS⟩)
theorem pmX12_505 {v : Int32} (F : CallFix p m c cc nL s args (cw :: Gw) RX12) (K : va_K D vwCl (tyL cy) s) (Z : ZG D (wM ad cy st) A s H locs) (hd : decode cc pc = .ok (.putfield 505, 3)) (kk : ∀ (H1 : Heap) (locs1 : List Loc), ZG D (wM ad cy (uF st 29 v)) A s H1 locs1 → W p l e R s m args below meth c H1 locs1 0 0 Q (F0 m (pc + 3) ls rest)) : W p l e R s m args below meth c H locs 0 0 Q (F0 m pc ls (.int v :: .ref (ad 0) :: rest)) :=
  va_put (D := D) (ci := 12) (v := .int v) (ty := .int) (C := RX12) (T := TX12) (N := 98) F.1 F.2.1 F.2.2.2.2 (fun w h => List.mem_cons_of_mem _ (inG_X12 w h)) tyX12 tyX12_ok nmX12 F.2.2.2.1 K Z.1 Z.2.1 Z.2.2 0 rfl rfl 58 (by decide) (F.2.2.2.2 _ (List.mem_cons_of_mem _ wd1335)) (fun _ h => h) rfl (by decide +kernel) rfl rfl (Nat.le_of_ble_eq_true rfl) hd (fun H1 locs1 hP hD hS => kk H1 locs1 ⟨hP, hD, hS⟩)
theorem ml10 {i : Int32} (F : CallFix p m c cc nL s args (cw :: Gw) own) (K : va_K D vwCl (tyL cy) s) (Z : ZG D (wM ad cy st) A s H locs) (hi : inB i 20 = true) (hd : decode cc pc = .ok (.iaload, 1)) (kk : W p l e R s m args below meth c H locs 0 0 Q (F0 m (pc + 1) ls (.int (st.2.1 9 i.toNatClampNeg) :: rest))) : W p l e R s m args below meth c H locs 0 0 Q (F0 m pc ls (.int i :: .ref (ad 10) :: rest)) :=
  va_iald F.1 F.2.1 K Z.1 10 1 rfl rfl (inB_vp hi) hd kk
theorem krX12_518_X12_search {n : Nat}  {q : (Int32 × StT)} (F : CallFix p m c cc nL s args (cw :: Gw) RX12) (K : va_K D vwCl (tyL cy) s) (E : EV ee A s s.heap) (hA : ∀ q, s.heap.size ≤ q → A q) (Z : ZG D (wM ad cy st) A s H locs) (hf : f_X12_search n st = some q) (hR : 6 ≤ R.frames ∧ 154 ≤ R.locals) (hl : ls.size = nL) (hst : (rest.map fun v => v.category).sum ≤ 8) (hd : decode cc pc = .ok (.invokevirtual 518, 3)) (kk : ∀ (H1 : Heap) (locs1 : List Loc), ZG D (wM ad cy q.2) A s H1 locs1 → W p l e R s m args below meth c H1 locs1 0 0 Q (F0 m (pc + 3) ls (.int q.1 :: rest))) : W p l e R s m args below meth c H locs 0 0 Q (F0 m pc ls (.ref (ad 0) :: rest)) :=
  call_V (q := (RX12, TX12, 98)) (n := 0) (As := []) (rv := some (.int q.1)) 0 12 F K E hA Z (c_X12_search (l := l) (D := D) (ad := ad) (cy := cy) (ee := ee) hf) ⟨wd1349, wd1348, wd1350, wd1351, wd1008⟩ (by decide +kernel) rfl rfl hR rfl hl hst hd kk
end
set_option maxRecDepth 100000 in
set_option maxHeartbeats 4000000 in
theorem b_X12_prove_88 {p : Program} {l : Launch} {e : Env} {s : State} {m : MethodId} {args : Array Value} {below : List Frame} {meth : Method} {c : Code} {D : va_G} {A : Nat → Prop} {ad : Nat → Nat} {cy : Nat → ClassId} {ee : EE} {n : Nat} {res : (Int32 × StT)} (F : CallFix p m c cX12_prove 5 s args (Cond.code yX12_prove cX12_prove 5 (some .int) :: Gw) yX12_prove.cls) (hr : meth.sig.returnType = (some .int)) (hk : meth.locks = false) (K : va_K D vwCl (tyL cy) s) (E : EV ee A s s.heap) (hA : ∀ q, s.heap.size ≤ q → A q) : ∀ (k : Nat) (st : StT) (x3 : Int32), f_X12_prove_88 n k st x3 = some res → ∀ (H : Heap) (locs : List Loc) (ls : Array Slot), ZG D (wM ad cy st) A s H locs → lv_has ls 5 [(0, .ref (ad 0)), (3, .int x3)] → W p l e { frames := 6, cells := 0, slots := 0, locals := 154 } s m args below meth c H locs 0 0 (MQ below (QC D (some (.int res.1)) (wM ad cy res.2) A) args s 0 0 A) (F0 m 88 ls []) := by
  have hx := F.1
  have hb := F.2.1
  intro k
  induction k with
  | zero =>
    intro st x3 hf
    exact absurd hf (by simp [f_X12_prove_88])
  | succ k ih =>
    intro st x3 hf H locs ls Z hl
    rw [f_X12_prove_88] at hf
    refine lv_iload_n hx hb dX12_prove_88 rfl (lv_at hl 1 rfl) ?_
    refine lv_aload_n hx hb dX12_prove_89 rfl (lv_at hl 0 rfl) ?_
    refine gmX12_515 F K Z dX12_prove_90 ?_
    refine lv_icmp_ge (tgt := 124) hx hb dX12_prove_93 (by decide) (fun c93 => ?_) (fun c93 => ?_)
    · have hf := if_t c93 hf
      refine lv_aload_n hx hb dX12_prove_124 rfl (lv_at hl 0 rfl) ?_
      refine lv_aload_n hx hb dX12_prove_125 rfl (lv_at hl 0 rfl) ?_
      obtain ⟨q126, h126, hf⟩ := bind_some hf
      refine krX12_518_X12_search F K E hA Z h126 ⟨Nat.le_of_ble_eq_true rfl, Nat.le_of_ble_eq_true rfl⟩ hl.1 (Nat.le_of_ble_eq_true rfl) dX12_prove_126 (fun H locs Z => ?_)
      refine pmX12_103 F K Z dX12_prove_129 (fun H locs Z => ?_)
      refine lv_aload_n hx hb dX12_prove_132 rfl (lv_at hl 0 rfl) ?_
      refine lv_aload_n hx hb dX12_prove_133 rfl (lv_at hl 0 rfl) ?_
      refine gmX12_347 F K Z dX12_prove_134 ?_
      refine pmX12_448 F K Z dX12_prove_137 (fun H locs Z => ?_)
      refine lv_aload_n hx hb dX12_prove_140 rfl (lv_at hl 0 rfl) ?_
      refine lv_aload_n hx hb dX12_prove_141 rfl (lv_at hl 0 rfl) ?_
      refine gmX12_388 F K Z dX12_prove_142 ?_
      refine pmX12_505 F K Z dX12_prove_145 (fun H locs Z => ?_)
      refine lv_aload_n hx hb dX12_prove_148 rfl (lv_at hl 0 rfl) ?_
      refine gmX12_103 F K Z dX12_prove_149 ?_
      have hf := Option.some.inj hf
      subst hf
      exact ret_i F hr hk Z dX12_prove_152
    have hf := if_f c93 hf
    refine lv_aload_n hx hb dX12_prove_96 rfl (lv_at hl 0 rfl) ?_
    refine lv_iconst (v := 0) hx hb dX12_prove_97 (by decide) ?_
    refine lv_aload_n hx hb dX12_prove_98 rfl (lv_at hl 0 rfl) ?_
    refine gmX12_42 F K Z dX12_prove_99 ?_
    refine lv_iload_n hx hb dX12_prove_102 rfl (lv_at hl 1 rfl) ?_
    obtain ⟨i103, hf⟩ := if_some hf
    refine ml10 F K Z i103 dX12_prove_103 ?_
    refine lv_aload_n hx hb dX12_prove_104 rfl (lv_at hl 0 rfl) ?_
    refine lv_iload_n hx hb dX12_prove_105 rfl (lv_at hl 1 rfl) ?_
    obtain ⟨q106, h106, hf⟩ := bind_some hf
    refine krX12_360_X12_hypothesis F K E hA Z h106 ⟨Nat.le_of_ble_eq_true rfl, Nat.le_of_ble_eq_true rfl⟩ hl.1 (Nat.le_of_ble_eq_true rfl) dX12_prove_106 (fun H locs Z => ?_)
    refine lv_aload_n hx hb dX12_prove_109 rfl (lv_at hl 0 rfl) ?_
    refine gmX12_515 F K Z dX12_prove_110 ?_
    obtain ⟨q113, h113, hf⟩ := bind_some hf
    refine krX12_363_X12_comes F K E hA Z h113 ⟨Nat.le_of_ble_eq_true rfl, Nat.le_of_ble_eq_true rfl⟩ hl.1 (Nat.le_of_ble_eq_true rfl) dX12_prove_113 (fun H locs Z => ?_)
    refine lv_istore (lv' := [(4, .int q113.1), (0, .ref (ad 0)), (3, .int x3)]) hx hb dX12_prove_116 hl (by decide) rfl (fun ls hl => ?_)
    refine lv_iinc (v := (x3 + (1 : Int32))) (lv' := [(3, .int (x3 + (1 : Int32))), (4, .int q113.1), (0, .ref (ad 0))]) hx hb dX12_prove_118 hl (k := 2) rfl (congrArg (fun z => x3 + z) (by decide)) (by decide) rfl (fun ls hl => ?_)
    refine lv_goto (tgt := 88) hx hb dX12_prove_121 (by decide) ?_
    exact ih _ _ hf _ _ _ Z (lv_sub hl [2, 0] rfl)
set_option maxRecDepth 100000 in
set_option maxHeartbeats 4000000 in
theorem c_X12_prove {l : Launch} {D : va_G} {ad : Nat → Nat} {cy : Nat → ClassId} {ee : EE} {n : Nat} {st : StT} {x1 : Int32} {x2 : Int32} {res : (Int32 × StT)} (hf : f_X12_prove n st x1 x2 = some res) : CT l yX12_prove cX12_prove 5 (some .int) 6 154 D cy ee (wM ad cy st) (wM ad cy res.2) [.ref (ad 0), .int x1, .int x2] (some (.int res.1)) := by
  refine CT.of (by decide +kernel) (Nat.le_of_ble_eq_true rfl) ?_
  intro p e s m args below meth c A F hr hk K E hA Z ls hl
  have hl : lv_has ls 5 [(0, .ref (ad 0)), (1, .int x1), (2, .int x2)] := hl
  have hx := F.1
  have hb := F.2.1
  unfold f_X12_prove at hf
  refine lv_aload_n hx hb dX12_prove_0 rfl (lv_at hl 0 rfl) ?_
  refine lv_iload_n hx hb dX12_prove_1 rfl (lv_at hl 1 rfl) ?_
  obtain ⟨q2, h2, hf⟩ := bind_some hf
  refine krX12_490_X12_isFormula F K E hA Z h2 ⟨Nat.le_of_ble_eq_true rfl, Nat.le_of_ble_eq_true rfl⟩ hl.1 (Nat.le_of_ble_eq_true rfl) dX12_prove_2 (fun H locs Z => ?_)
  refine lv_if_ne (tgt := 10) hx hb dX12_prove_5 (by decide) (fun c5 => ?_) (fun c5 => ?_)
  · have hf := if_f c5 hf
    refine lv_iload_n hx hb dX12_prove_10 rfl (lv_at hl 2 rfl) ?_
    refine lv_if_lt (tgt := 21) hx hb dX12_prove_11 (by decide) (fun c11 => ?_) (fun c11 => ?_)
    · have hf := if_t c11 hf
      refine lv_bipush (v := -2) hx hb dX12_prove_21 (by decide) ?_
      have hf := Option.some.inj hf
      subst hf
      exact ret_i F hr hk Z dX12_prove_23
    have hf := if_f c11 hf
    refine lv_iload_n hx hb dX12_prove_14 rfl (lv_at hl 2 rfl) ?_
    refine lv_sipush (v := 2000) hx hb dX12_prove_15 (by decide) ?_
    refine lv_icmp_le (tgt := 24) hx hb dX12_prove_18 (by decide) (fun c18 => ?_) (fun c18 => ?_)
    · have hf := if_t c18 hf
      refine lv_aload_n hx hb dX12_prove_24 rfl (lv_at hl 0 rfl) ?_
      refine lv_iconst (v := 0) hx hb dX12_prove_25 (by decide) ?_
      refine pmX12_315 F K Z dX12_prove_26 (fun H locs Z => ?_)
      refine lv_aload_n hx hb dX12_prove_29 rfl (lv_at hl 0 rfl) ?_
      refine lv_iconst (v := 0) hx hb dX12_prove_30 (by decide) ?_
      refine pmX12_322 F K Z dX12_prove_31 (fun H locs Z => ?_)
      refine lv_aload_n hx hb dX12_prove_34 rfl (lv_at hl 0 rfl) ?_
      refine lv_iconst (v := 0) hx hb dX12_prove_35 (by decide) ?_
      refine pmX12_338 F K Z dX12_prove_36 (fun H locs Z => ?_)
      refine lv_aload_n hx hb dX12_prove_39 rfl (lv_at hl 0 rfl) ?_
      refine lv_iload_n hx hb dX12_prove_40 rfl (lv_at hl 2 rfl) ?_
      refine pmX12_341 F K Z dX12_prove_41 (fun H locs Z => ?_)
      refine lv_aload_n hx hb dX12_prove_44 rfl (lv_at hl 0 rfl) ?_
      refine lv_iconst (v := 0) hx hb dX12_prove_45 (by decide) ?_
      refine pmX12_332 F K Z dX12_prove_46 (fun H locs Z => ?_)
      refine lv_aload_n hx hb dX12_prove_49 rfl (lv_at hl 0 rfl) ?_
      refine lv_iconst (v := 0) hx hb dX12_prove_50 (by decide) ?_
      refine pmX12_344 F K Z dX12_prove_51 (fun H locs Z => ?_)
      refine lv_aload_n hx hb dX12_prove_54 rfl (lv_at hl 0 rfl) ?_
      refine gmX12_82 F K Z dX12_prove_55 ?_
      refine lv_iconst (v := 0) hx hb dX12_prove_58 (by decide) ?_
      refine lv_iconst (v := 0) hx hb dX12_prove_59 (by decide) ?_
      obtain ⟨i60, hf⟩ := if_some hf
      refine ms23 F K Z i60 dX12_prove_60 (fun H locs Z => ?_)
      refine lv_aload_n hx hb dX12_prove_61 rfl (lv_at hl 0 rfl) ?_
      refine gmX12_85 F K Z dX12_prove_62 ?_
      refine lv_iconst (v := 0) hx hb dX12_prove_65 (by decide) ?_
      refine lv_iload_n hx hb dX12_prove_66 rfl (lv_at hl 1 rfl) ?_
      obtain ⟨i67, hf⟩ := if_some hf
      refine ms24 F K Z i67 dX12_prove_67 (fun H locs Z => ?_)
      refine lv_aload_n hx hb dX12_prove_68 rfl (lv_at hl 0 rfl) ?_
      refine gmX12_88 F K Z dX12_prove_69 ?_
      refine lv_iconst (v := 0) hx hb dX12_prove_72 (by decide) ?_
      refine lv_aload_n hx hb dX12_prove_73 rfl (lv_at hl 0 rfl) ?_
      refine gmX12_515 F K Z dX12_prove_74 ?_
      obtain ⟨i77, hf⟩ := if_some hf
      refine ms25 F K Z i77 dX12_prove_77 (fun H locs Z => ?_)
      refine lv_aload_n hx hb dX12_prove_78 rfl (lv_at hl 0 rfl) ?_
      refine lv_aload_n hx hb dX12_prove_79 rfl (lv_at hl 0 rfl) ?_
      refine gmX12_515 F K Z dX12_prove_80 ?_
      refine pmX12_445 F K Z dX12_prove_83 (fun H locs Z => ?_)
      refine lv_iconst (v := 0) hx hb dX12_prove_86 (by decide) ?_
      refine lv_istore_n (lv' := [(3, .int (0 : Int32)), (0, .ref (ad 0)), (1, .int x1), (2, .int x2)]) hx hb dX12_prove_87 rfl hl (by decide) rfl (fun ls hl => ?_)
      exact b_X12_prove_88 F hr hk K E hA _ _ _ hf _ _ _ Z (lv_sub hl [1, 0] rfl)
    have hf := if_f c18 hf
    refine lv_bipush (v := -2) hx hb dX12_prove_21 (by decide) ?_
    have hf := Option.some.inj hf
    subst hf
    exact ret_i F hr hk Z dX12_prove_23
  have hf := if_t c5 hf
  refine lv_iconst (v := -1) hx hb dX12_prove_8 (by decide) ?_
  have hf := Option.some.inj hf
  subst hf
  exact ret_i F hr hk Z dX12_prove_9
def f_X12_told (n : Nat) (st : StT) (x1 : Int32) : Option (Int32 × StT) := if x1 = 0 then (some ((st.1 20), st)) else (if x1 = (1 : Int32) then (some ((st.1 22), st)) else (if x1 = (2 : Int32) then (some ((st.1 23), st)) else (if x1 = (3 : Int32) then (some ((st.1 28), st)) else (some ((-2 : Int32), st)))))
set_option maxRecDepth 100000 in
set_option maxHeartbeats 4000000 in
theorem c_X12_told {l : Launch} {D : va_G} {ad : Nat → Nat} {cy : Nat → ClassId} {ee : EE} {n : Nat} {st : StT} {x1 : Int32} {res : (Int32 × StT)} (hf : f_X12_told n st x1 = some res) : CT l yX12_told cX12_told 2 (some .int) 0 0 D cy ee (wM ad cy st) (wM ad cy res.2) [.ref (ad 0), .int x1] (some (.int res.1)) := by
  refine CT.of (by decide +kernel) (Nat.le_of_ble_eq_true rfl) ?_
  intro p e s m args below meth c A F hr hk K E hA Z ls hl
  have hl : lv_has ls 2 [(0, .ref (ad 0)), (1, .int x1)] := hl
  have hx := F.1
  have hb := F.2.1
  unfold f_X12_told at hf
  refine lv_iload_n hx hb dX12_told_0 rfl (lv_at hl 1 rfl) ?_
  refine lv_if_ne (tgt := 11) hx hb dX12_told_1 (by decide) (fun c1 => ?_) (fun c1 => ?_)
  · have hf := if_f c1 hf
    refine lv_iload_n hx hb dX12_told_11 rfl (lv_at hl 1 rfl) ?_
    refine lv_iconst (v := 1) hx hb dX12_told_12 (by decide) ?_
    refine lv_icmp_ne (tgt := 23) hx hb dX12_told_13 (by decide) (fun c13 => ?_) (fun c13 => ?_)
    · have hf := if_f c13 hf
      refine lv_iload_n hx hb dX12_told_23 rfl (lv_at hl 1 rfl) ?_
      refine lv_iconst (v := 2) hx hb dX12_told_24 (by decide) ?_
      refine lv_icmp_ne (tgt := 35) hx hb dX12_told_25 (by decide) (fun c25 => ?_) (fun c25 => ?_)
      · have hf := if_f c25 hf
        refine lv_iload_n hx hb dX12_told_35 rfl (lv_at hl 1 rfl) ?_
        refine lv_iconst (v := 3) hx hb dX12_told_36 (by decide) ?_
        refine lv_icmp_ne (tgt := 47) hx hb dX12_told_37 (by decide) (fun c37 => ?_) (fun c37 => ?_)
        · have hf := if_f c37 hf
          refine lv_bipush (v := -2) hx hb dX12_told_47 (by decide) ?_
          have hf := Option.some.inj hf
          subst hf
          exact ret_i F hr hk Z dX12_told_49
        have hf := if_t c37 hf
        refine lv_aload_n hx hb dX12_told_40 rfl (lv_at hl 0 rfl) ?_
        refine gmX12_103 F K Z dX12_told_41 ?_
        refine lv_goto (tgt := 49) hx hb dX12_told_44 (by decide) ?_
        have hf := Option.some.inj hf
        subst hf
        exact ret_i F hr hk Z dX12_told_49
      have hf := if_t c25 hf
      refine lv_aload_n hx hb dX12_told_28 rfl (lv_at hl 0 rfl) ?_
      refine gmX12_344 F K Z dX12_told_29 ?_
      refine lv_goto (tgt := 49) hx hb dX12_told_32 (by decide) ?_
      have hf := Option.some.inj hf
      subst hf
      exact ret_i F hr hk Z dX12_told_49
    have hf := if_t c13 hf
    refine lv_aload_n hx hb dX12_told_16 rfl (lv_at hl 0 rfl) ?_
    refine gmX12_332 F K Z dX12_told_17 ?_
    refine lv_goto (tgt := 49) hx hb dX12_told_20 (by decide) ?_
    have hf := Option.some.inj hf
    subst hf
    exact ret_i F hr hk Z dX12_told_49
  have hf := if_t c1 hf
  refine lv_aload_n hx hb dX12_told_4 rfl (lv_at hl 0 rfl) ?_
  refine gmX12_338 F K Z dX12_told_5 ?_
  refine lv_goto (tgt := 49) hx hb dX12_told_8 (by decide) ?_
  have hf := Option.some.inj hf
  subst hf
  exact ret_i F hr hk Z dX12_told_49
def f_X12_check_92 (n : Nat) : Nat → StT → Int32 → Int32 → Int32 → Option (Int32 × StT)
  | 0, _, _, _, _ => none
  | k + 1, st, x1, x2, x3 => if (st.1 16) ≤ x3 then ((f_X12_isProof n st x2 x1).bind fun q121 => (if q121.1 = 0 then (some ((0 : Int32), q121.2)) else (some ((1 : Int32), q121.2)))) else (if inB x3 20 = true then (if inB x3 80 = true then (f_X12_check_92 n k (uA st 48 x3 (st.2.1 9 (x3).toNatClampNeg)) x1 x2 (x3 + (1 : Int32))) else none) else none)
def f_X12_check_72 (n : Nat) (st : StT) (x1 : Int32) (x2 : Int32) (y0 : Int32) : Option (Int32 × StT) := if ((uF st 12 y0).1 10) = 0 then (f_X12_check_92 n n (uF st 12 y0) x1 x2 (0 : Int32)) else (some (((-10 : Int32) - ((uF st 12 y0).1 10)), (uF st 12 y0)))
def f_X12_check_56 (n : Nat) (st : StT) (x1 : Int32) (x2 : Int32) : Option (Int32 × StT) := if (st.1 10) = 0 then (f_X12_check_72 n st x1 x2 (-1 : Int32)) else (f_X12_check_72 n st x1 x2 (st.1 11))
def f_X12_check (n : Nat) (st : StT) (x1 : Int32) : Option (Int32 × StT) := (f_X12_isFormula n st x1).bind fun q2 => (if q2.1 = 0 then (some ((-1 : Int32), q2.2)) else ((f_X12_beginText n q2.2 (1 : Int32)).bind fun q12 => ((f_X12_readTerm n (uF q12 34 (0 : Int32)) ((uF q12 34 (0 : Int32)).1 16)).bind fun q25 => (if (q25.2.1 10) = 0 then ((f_X12_look n q25.2).bind fun q37 => (if q37.1 = (256 : Int32) then (f_X12_check_56 n q37.2 x1 q25.1) else ((f_X12_fail n q37.2 (2 : Int32) (q37.2.1 6)).bind fun q52 => (f_X12_check_56 n q52.2 x1 q25.1)))) else (f_X12_check_56 n q25.2 x1 q25.1)))))
theorem wd1352 : Cond.methodLink RX12 521 yX12_readTerm ∈ Gw := gT8 (List.mem_of_getElem? (i := 173) rfl) rfl
theorem wd1353 : Cond.code yX12_readTerm prog_14_method_59_code 9 (some .int) ∈ Gw := gT8 (List.mem_of_getElem? (i := 176) rfl) rfl
theorem wd1354 : Cond.instanceMethod yX12_readTerm ∈ Gw := gT8 (List.mem_of_getElem? (i := 175) rfl) rfl
theorem wd1355 : Cond.selects RX12 yX12_readTerm yX12_readTerm ∈ Gw := gP8 (q := (yX12_readTerm, 98)) (List.mem_of_getElem? (i := 10) rfl)
theorem wd1356 : Cond.methodLink RX12 524 yX12_isProof ∈ Gw := gT8 (List.mem_of_getElem? (i := 193) rfl) rfl
theorem wd1357 : Cond.code yX12_isProof prog_14_method_65_code 6 (some .boolean) ∈ Gw := gT8 (List.mem_of_getElem? (i := 196) rfl) rfl
theorem wd1358 : Cond.instanceMethod yX12_isProof ∈ Gw := gT8 (List.mem_of_getElem? (i := 195) rfl) rfl
theorem wd1359 : Cond.selects RX12 yX12_isProof yX12_isProof ∈ Gw := gP8 (q := (yX12_isProof, 98)) (List.mem_of_getElem? (i := 15) rfl)
section
variable {p : Program} {l : Launch} {e : Env} {R : Room} {s : State} {m : MethodId} {args : Array Value} {below : List Frame} {meth : Method} {c : Code} {H : Heap} {locs : List Loc} {Q : State → Prop}
variable {cc : ByteArray} {nL pc : Nat} {ls : Array Slot} {rest : List Value} {D : va_G} {A : Nat → Prop} {cw : Cond} {ad : Nat → Nat} {cy : Nat → ClassId} {ee : EE} {st : StT} {own : String}
theorem krX12_521_X12_readTerm {n : Nat} {a0 : Int32} {q : (Int32 × StT)} (F : CallFix p m c cc nL s args (cw :: Gw) RX12) (K : va_K D vwCl (tyL cy) s) (E : EV ee A s s.heap) (hA : ∀ q, s.heap.size ≤ q → A q) (Z : ZG D (wM ad cy st) A s H locs) (hf : f_X12_readTerm n st a0 = some q) (hR : 8 ≤ R.frames ∧ 191 ≤ R.locals) (hl : ls.size = nL) (hst : (rest.map fun v => v.category).sum ≤ 8) (hd : decode cc pc = .ok (.invokevirtual 521, 3)) (kk : ∀ (H1 : Heap) (locs1 : List Loc), ZG D (wM ad cy q.2) A s H1 locs1 → W p l e R s m args below meth c H1 locs1 0 0 Q (F0 m (pc + 3) ls (.int q.1 :: rest))) : W p l e R s m args below meth c H locs 0 0 Q (F0 m pc ls (.int a0 :: .ref (ad 0) :: rest)) :=
  call_V (q := (RX12, TX12, 98)) (n := 1) (As := [.int a0]) (rv := some (.int q.1)) 0 12 F K E hA Z (c_X12_readTerm (l := l) (D := D) (ad := ad) (cy := cy) (ee := ee) hf) ⟨wd1353, wd1352, wd1354, wd1355, wd1008⟩ (by decide +kernel) rfl rfl hR rfl hl hst hd kk
theorem krX12_524_X12_isProof {n : Nat} {a0 : Int32} {a1 : Int32} {q : (Int32 × StT)} (F : CallFix p m c cc nL s args (cw :: Gw) RX12) (K : va_K D vwCl (tyL cy) s) (E : EV ee A s s.heap) (hA : ∀ q, s.heap.size ≤ q → A q) (Z : ZG D (wM ad cy st) A s H locs) (hf : f_X12_isProof n st a0 a1 = some q) (hR : 5 ≤ R.frames ∧ 125 ≤ R.locals) (hl : ls.size = nL) (hst : (rest.map fun v => v.category).sum ≤ 8) (hd : decode cc pc = .ok (.invokevirtual 524, 3)) (kk : ∀ (H1 : Heap) (locs1 : List Loc), ZG D (wM ad cy q.2) A s H1 locs1 → W p l e R s m args below meth c H1 locs1 0 0 Q (F0 m (pc + 3) ls (.int q.1 :: rest))) : W p l e R s m args below meth c H locs 0 0 Q (F0 m pc ls (.int a1 :: .int a0 :: .ref (ad 0) :: rest)) :=
  call_V (q := (RX12, TX12, 98)) (n := 2) (As := [.int a0, .int a1]) (rv := some (.int q.1)) 0 12 F K E hA Z (c_X12_isProof (l := l) (D := D) (ad := ad) (cy := cy) (ee := ee) hf) ⟨wd1357, wd1356, wd1358, wd1359, wd1008⟩ (by decide +kernel) rfl rfl hR rfl hl hst hd kk
end
set_option maxRecDepth 100000 in
set_option maxHeartbeats 4000000 in
theorem b_X12_check_92 {p : Program} {l : Launch} {e : Env} {s : State} {m : MethodId} {args : Array Value} {below : List Frame} {meth : Method} {c : Code} {D : va_G} {A : Nat → Prop} {ad : Nat → Nat} {cy : Nat → ClassId} {ee : EE} {n : Nat} {res : (Int32 × StT)} (F : CallFix p m c cX12_check 4 s args (Cond.code yX12_check cX12_check 4 (some .int) :: Gw) yX12_check.cls) (hr : meth.sig.returnType = (some .int)) (hk : meth.locks = false) (K : va_K D vwCl (tyL cy) s) (E : EV ee A s s.heap) (hA : ∀ q, s.heap.size ≤ q → A q) : ∀ (k : Nat) (st : StT) (x1 : Int32) (x2 : Int32) (x3 : Int32), f_X12_check_92 n k st x1 x2 x3 = some res → ∀ (H : Heap) (locs : List Loc) (ls : Array Slot), ZG D (wM ad cy st) A s H locs → lv_has ls 4 [(0, .ref (ad 0)), (1, .int x1), (2, .int x2), (3, .int x3)] → W p l e { frames := 8, cells := 0, slots := 0, locals := 191 } s m args below meth c H locs 0 0 (MQ below (QC D (some (.int res.1)) (wM ad cy res.2) A) args s 0 0 A) (F0 m 92 ls []) := by
  have hx := F.1
  have hb := F.2.1
  intro k
  induction k with
  | zero =>
    intro st x1 x2 x3 hf
    exact absurd hf (by simp [f_X12_check_92])
  | succ k ih =>
    intro st x1 x2 x3 hf H locs ls Z hl
    rw [f_X12_check_92] at hf
    refine lv_iload_n hx hb dX12_check_92 rfl (lv_at hl 3 rfl) ?_
    refine lv_aload_n hx hb dX12_check_93 rfl (lv_at hl 0 rfl) ?_
    refine gmX12_515 F K Z dX12_check_94 ?_
    refine lv_icmp_ge (tgt := 118) hx hb dX12_check_97 (by decide) (fun c97 => ?_) (fun c97 => ?_)
    · have hf := if_t c97 hf
      refine lv_aload_n hx hb dX12_check_118 rfl (lv_at hl 0 rfl) ?_
      refine lv_iload_n hx hb dX12_check_119 rfl (lv_at hl 2 rfl) ?_
      refine lv_iload_n hx hb dX12_check_120 rfl (lv_at hl 1 rfl) ?_
      obtain ⟨q121, h121, hf⟩ := bind_some hf
      refine krX12_524_X12_isProof F K E hA Z h121 ⟨Nat.le_of_ble_eq_true rfl, Nat.le_of_ble_eq_true rfl⟩ hl.1 (Nat.le_of_ble_eq_true rfl) dX12_check_121 (fun H locs Z => ?_)
      refine lv_if_eq (tgt := 131) hx hb dX12_check_124 (by decide) (fun c124 => ?_) (fun c124 => ?_)
      · have hf := if_t c124 hf
        refine lv_iconst (v := 0) hx hb dX12_check_131 (by decide) ?_
        have hf := Option.some.inj hf
        subst hf
        exact ret_i F hr hk Z dX12_check_132
      have hf := if_f c124 hf
      refine lv_iconst (v := 1) hx hb dX12_check_127 (by decide) ?_
      refine lv_goto (tgt := 132) hx hb dX12_check_128 (by decide) ?_
      have hf := Option.some.inj hf
      subst hf
      exact ret_i F hr hk Z dX12_check_132
    have hf := if_f c97 hf
    refine lv_aload_n hx hb dX12_check_100 rfl (lv_at hl 0 rfl) ?_
    refine gmX12_163 F K Z dX12_check_101 ?_
    refine lv_iload_n hx hb dX12_check_104 rfl (lv_at hl 3 rfl) ?_
    refine lv_aload_n hx hb dX12_check_105 rfl (lv_at hl 0 rfl) ?_
    refine gmX12_42 F K Z dX12_check_106 ?_
    refine lv_iload_n hx hb dX12_check_109 rfl (lv_at hl 3 rfl) ?_
    obtain ⟨i110, hf⟩ := if_some hf
    refine ml10 F K Z i110 dX12_check_110 ?_
    obtain ⟨i111, hf⟩ := if_some hf
    refine ms49 F K Z i111 dX12_check_111 (fun H locs Z => ?_)
    refine lv_iinc (v := (x3 + (1 : Int32))) (lv' := [(3, .int (x3 + (1 : Int32))), (0, .ref (ad 0)), (1, .int x1), (2, .int x2)]) hx hb dX12_check_112 hl (k := 3) rfl (congrArg (fun z => x3 + z) (by decide)) (by decide) rfl (fun ls hl => ?_)
    refine lv_goto (tgt := 92) hx hb dX12_check_115 (by decide) ?_
    exact ih _ _ _ _ hf _ _ _ Z (lv_sub hl [1, 2, 3, 0] rfl)
set_option maxRecDepth 100000 in
set_option maxHeartbeats 4000000 in
theorem b_X12_check_72 {p : Program} {l : Launch} {e : Env} {s : State} {m : MethodId} {args : Array Value} {below : List Frame} {meth : Method} {c : Code} {D : va_G} {A : Nat → Prop} {ad : Nat → Nat} {cy : Nat → ClassId} {ee : EE} {n : Nat} {res : (Int32 × StT)} (F : CallFix p m c cX12_check 4 s args (Cond.code yX12_check cX12_check 4 (some .int) :: Gw) yX12_check.cls) (hr : meth.sig.returnType = (some .int)) (hk : meth.locks = false) (K : va_K D vwCl (tyL cy) s) (E : EV ee A s s.heap) (hA : ∀ q, s.heap.size ≤ q → A q) : ∀ (st : StT) (x1 : Int32) (x2 : Int32) (y0 : Int32), f_X12_check_72 n st x1 x2 y0 = some res → ∀ (H : Heap) (locs : List Loc) (ls : Array Slot), ZG D (wM ad cy st) A s H locs → lv_has ls 4 [(0, .ref (ad 0)), (1, .int x1), (2, .int x2)] → W p l e { frames := 8, cells := 0, slots := 0, locals := 191 } s m args below meth c H locs 0 0 (MQ below (QC D (some (.int res.1)) (wM ad cy res.2) A) args s 0 0 A) (F0 m 72 ls [.int y0, .ref (ad 0)]) := by
  have hx := F.1
  have hb := F.2.1
  intro st x1 x2 y0 hf H locs ls Z hl
  unfold f_X12_check_72 at hf
  refine pmX12_31 F K Z dX12_check_72 (fun H locs Z => ?_)
  refine lv_aload_n hx hb dX12_check_75 rfl (lv_at hl 0 rfl) ?_
  refine gmX12_257 F K Z dX12_check_76 ?_
  refine lv_if_eq (tgt := 90) hx hb dX12_check_79 (by decide) (fun c79 => ?_) (fun c79 => ?_)
  · have hf := if_t c79 hf
    refine lv_iconst (v := 0) hx hb dX12_check_90 (by decide) ?_
    refine lv_istore_n (lv' := [(3, .int (0 : Int32)), (0, .ref (ad 0)), (1, .int x1), (2, .int x2)]) hx hb dX12_check_91 rfl hl (by decide) rfl (fun ls hl => ?_)
    exact b_X12_check_92 F hr hk K E hA _ _ _ _ _ hf _ _ _ Z (lv_sub hl [1, 2, 3, 0] rfl)
  have hf := if_f c79 hf
  refine lv_bipush (v := -10) hx hb dX12_check_82 (by decide) ?_
  refine lv_aload_n hx hb dX12_check_84 rfl (lv_at hl 0 rfl) ?_
  refine gmX12_257 F K Z dX12_check_85 ?_
  refine lv_isub hx hb dX12_check_88 ?_
  have hf := Option.some.inj hf
  subst hf
  exact ret_i F hr hk Z dX12_check_89
set_option maxRecDepth 100000 in
set_option maxHeartbeats 4000000 in
theorem b_X12_check_56 {p : Program} {l : Launch} {e : Env} {s : State} {m : MethodId} {args : Array Value} {below : List Frame} {meth : Method} {c : Code} {D : va_G} {A : Nat → Prop} {ad : Nat → Nat} {cy : Nat → ClassId} {ee : EE} {n : Nat} {res : (Int32 × StT)} (F : CallFix p m c cX12_check 4 s args (Cond.code yX12_check cX12_check 4 (some .int) :: Gw) yX12_check.cls) (hr : meth.sig.returnType = (some .int)) (hk : meth.locks = false) (K : va_K D vwCl (tyL cy) s) (E : EV ee A s s.heap) (hA : ∀ q, s.heap.size ≤ q → A q) : ∀ (st : StT) (x1 : Int32) (x2 : Int32), f_X12_check_56 n st x1 x2 = some res → ∀ (H : Heap) (locs : List Loc) (ls : Array Slot), ZG D (wM ad cy st) A s H locs → lv_has ls 4 [(0, .ref (ad 0)), (1, .int x1), (2, .int x2)] → W p l e { frames := 8, cells := 0, slots := 0, locals := 191 } s m args below meth c H locs 0 0 (MQ below (QC D (some (.int res.1)) (wM ad cy res.2) A) args s 0 0 A) (F0 m 56 ls []) := by
  have hx := F.1
  have hb := F.2.1
  intro st x1 x2 hf H locs ls Z hl
  unfold f_X12_check_56 at hf
  refine lv_aload_n hx hb dX12_check_56 rfl (lv_at hl 0 rfl) ?_
  refine lv_aload_n hx hb dX12_check_57 rfl (lv_at hl 0 rfl) ?_
  refine gmX12_257 F K Z dX12_check_58 ?_
  refine lv_if_ne (tgt := 68) hx hb dX12_check_61 (by decide) (fun c61 => ?_) (fun c61 => ?_)
  · have hf := if_f c61 hf
    refine lv_aload_n hx hb dX12_check_68 rfl (lv_at hl 0 rfl) ?_
    refine gmX12_260 F K Z dX12_check_69 ?_
    exact b_X12_check_72 F hr hk K E hA _ _ _ _ hf _ _ _ Z hl
  have hf := if_t c61 hf
  refine lv_iconst (v := -1) hx hb dX12_check_64 (by decide) ?_
  refine lv_goto (tgt := 72) hx hb dX12_check_65 (by decide) ?_
  exact b_X12_check_72 F hr hk K E hA _ _ _ _ hf _ _ _ Z hl
set_option maxRecDepth 100000 in
set_option maxHeartbeats 4000000 in
theorem c_X12_check {l : Launch} {D : va_G} {ad : Nat → Nat} {cy : Nat → ClassId} {ee : EE} {n : Nat} {st : StT} {x1 : Int32} {res : (Int32 × StT)} (hf : f_X12_check n st x1 = some res) : CT l yX12_check cX12_check 4 (some .int) 8 191 D cy ee (wM ad cy st) (wM ad cy res.2) [.ref (ad 0), .int x1] (some (.int res.1)) := by
  refine CT.of (by decide +kernel) (Nat.le_of_ble_eq_true rfl) ?_
  intro p e s m args below meth c A F hr hk K E hA Z ls hl
  have hl : lv_has ls 4 [(0, .ref (ad 0)), (1, .int x1)] := hl
  have hx := F.1
  have hb := F.2.1
  unfold f_X12_check at hf
  refine lv_aload_n hx hb dX12_check_0 rfl (lv_at hl 0 rfl) ?_
  refine lv_iload_n hx hb dX12_check_1 rfl (lv_at hl 1 rfl) ?_
  obtain ⟨q2, h2, hf⟩ := bind_some hf
  refine krX12_490_X12_isFormula F K E hA Z h2 ⟨Nat.le_of_ble_eq_true rfl, Nat.le_of_ble_eq_true rfl⟩ hl.1 (Nat.le_of_ble_eq_true rfl) dX12_check_2 (fun H locs Z => ?_)
  refine lv_if_ne (tgt := 10) hx hb dX12_check_5 (by decide) (fun c5 => ?_) (fun c5 => ?_)
  · have hf := if_f c5 hf
    refine lv_aload_n hx hb dX12_check_10 rfl (lv_at hl 0 rfl) ?_
    refine lv_iconst (v := 1) hx hb dX12_check_11 (by decide) ?_
    obtain ⟨q12, h12, hf⟩ := bind_some hf
    refine krX12_511_X12_beginText F K E hA Z h12 ⟨Nat.le_of_ble_eq_true rfl, Nat.le_of_ble_eq_true rfl⟩ hl.1 (Nat.le_of_ble_eq_true rfl) dX12_check_12 (fun H locs Z => ?_)
    refine lv_aload_n hx hb dX12_check_15 rfl (lv_at hl 0 rfl) ?_
    refine lv_iconst (v := 0) hx hb dX12_check_16 (by decide) ?_
    refine pmX12_451 F K Z dX12_check_17 (fun H locs Z => ?_)
    refine lv_aload_n hx hb dX12_check_20 rfl (lv_at hl 0 rfl) ?_
    refine lv_aload_n hx hb dX12_check_21 rfl (lv_at hl 0 rfl) ?_
    refine gmX12_515 F K Z dX12_check_22 ?_
    obtain ⟨q25, h25, hf⟩ := bind_some hf
    refine krX12_521_X12_readTerm F K E hA Z h25 ⟨Nat.le_of_ble_eq_true rfl, Nat.le_of_ble_eq_true rfl⟩ hl.1 (Nat.le_of_ble_eq_true rfl) dX12_check_25 (fun H locs Z => ?_)
    refine lv_istore_n (lv' := [(2, .int q25.1), (0, .ref (ad 0)), (1, .int x1)]) hx hb dX12_check_28 rfl hl (by decide) rfl (fun ls hl => ?_)
    refine lv_aload_n hx hb dX12_check_29 rfl (lv_at hl 1 rfl) ?_
    refine gmX12_257 F K Z dX12_check_30 ?_
    refine lv_if_ne (tgt := 56) hx hb dX12_check_33 (by decide) (fun c33 => ?_) (fun c33 => ?_)
    · have hf := if_f c33 hf
      exact b_X12_check_56 F hr hk K E hA _ _ _ hf _ _ _ Z (lv_sub hl [1, 2, 0] rfl)
    have hf := if_t c33 hf
    refine lv_aload_n hx hb dX12_check_36 rfl (lv_at hl 1 rfl) ?_
    obtain ⟨q37, h37, hf⟩ := bind_some hf
    refine krX12_270_X12_look F K E hA Z h37 ⟨Nat.le_of_ble_eq_true rfl, Nat.le_of_ble_eq_true rfl⟩ hl.1 (Nat.le_of_ble_eq_true rfl) dX12_check_37 (fun H locs Z => ?_)
    refine lv_sipush (v := 256) hx hb dX12_check_40 (by decide) ?_
    refine lv_icmp_eq (tgt := 56) hx hb dX12_check_43 (by decide) (fun c43 => ?_) (fun c43 => ?_)
    · have hf := if_t c43 hf
      exact b_X12_check_56 F hr hk K E hA _ _ _ hf _ _ _ Z (lv_sub hl [1, 2, 0] rfl)
    have hf := if_f c43 hf
    refine lv_aload_n hx hb dX12_check_46 rfl (lv_at hl 1 rfl) ?_
    refine lv_iconst (v := 2) hx hb dX12_check_47 (by decide) ?_
    refine lv_aload_n hx hb dX12_check_48 rfl (lv_at hl 1 rfl) ?_
    refine gmX12_227 F K Z dX12_check_49 ?_
    obtain ⟨q52, h52, hf⟩ := bind_some hf
    refine krX12_266_X12_fail F K E hA Z h52 ⟨Nat.le_of_ble_eq_true rfl, Nat.le_of_ble_eq_true rfl⟩ hl.1 (Nat.le_of_ble_eq_true rfl) dX12_check_52 (fun H locs Z => ?_)
    refine lv_istore_n (lv' := [(3, .int q52.1), (2, .int q25.1), (0, .ref (ad 0)), (1, .int x1)]) hx hb dX12_check_55 rfl hl (by decide) rfl (fun ls hl => ?_)
    exact b_X12_check_56 F hr hk K E hA _ _ _ hf _ _ _ Z (lv_sub hl [2, 3, 1] rfl)
  have hf := if_t c5 hf
  refine lv_iconst (v := -1) hx hb dX12_check_8 (by decide) ?_
  have hf := Option.some.inj hf
  subst hf
  exact ret_i F hr hk Z dX12_check_9
def f_X12_comesOut_154 (n : Nat) (k2 : StT → Int32 → Int32 → Int32 → Option (Int32 × StT)) (st : StT) (x1 : Int32) (x2 : Int32) (x3 : Int32) (x4 : Int32) (x5 : Int32) (x6 : Int32) (y0 : Int32) : Option (Int32 × StT) := if x6 = (5 : Int32) then (if x4 = 0 then (if inB y0 2000 = true then (k2 (uA st 59 y0 (vp_nar .boolean (1 : Int32))) x1 x2 (x3 + (1 : Int32))) else none) else (if x5 = 0 then (if inB y0 2000 = true then (k2 (uA st 59 y0 (vp_nar .boolean (0 : Int32))) x1 x2 (x3 + (1 : Int32))) else none) else (if inB y0 2000 = true then (k2 (uA st 59 y0 (vp_nar .boolean (1 : Int32))) x1 x2 (x3 + (1 : Int32))) else none))) else (if inB y0 2000 = true then (k2 (uA st 59 y0 (vp_nar .boolean (0 : Int32))) x1 x2 (x3 + (1 : Int32))) else none)
def f_X12_comesOut_138 (n : Nat) (k2 : StT → Int32 → Int32 → Int32 → Option (Int32 × StT)) (st : StT) (x1 : Int32) (x2 : Int32) (x3 : Int32) (x4 : Int32) (x5 : Int32) (x6 : Int32) (y0 : Int32) : Option (Int32 × StT) := if x6 = (4 : Int32) then (if x4 = 0 then (if x5 = 0 then (f_X12_comesOut_154 n k2 st x1 x2 x3 x4 x5 x6 y0) else (if inB y0 2000 = true then (k2 (uA st 59 y0 (vp_nar .boolean (1 : Int32))) x1 x2 (x3 + (1 : Int32))) else none)) else (if inB y0 2000 = true then (k2 (uA st 59 y0 (vp_nar .boolean (1 : Int32))) x1 x2 (x3 + (1 : Int32))) else none)) else (f_X12_comesOut_154 n k2 st x1 x2 x3 x4 x5 x6 y0)
def f_X12_comesOut_122 (n : Nat) (k2 : StT → Int32 → Int32 → Int32 → Option (Int32 × StT)) (st : StT) (x1 : Int32) (x2 : Int32) (x3 : Int32) (x4 : Int32) (x5 : Int32) (x6 : Int32) (y0 : Int32) : Option (Int32 × StT) := if x6 = (3 : Int32) then (if x4 = 0 then (f_X12_comesOut_138 n k2 st x1 x2 x3 x4 x5 x6 y0) else (if x5 = 0 then (f_X12_comesOut_138 n k2 st x1 x2 x3 x4 x5 x6 y0) else (if inB y0 2000 = true then (k2 (uA st 59 y0 (vp_nar .boolean (1 : Int32))) x1 x2 (x3 + (1 : Int32))) else none))) else (f_X12_comesOut_138 n k2 st x1 x2 x3 x4 x5 x6 y0)
def f_X12_comesOut_76 (n : Nat) (k2 : StT → Int32 → Int32 → Int32 → Option (Int32 × StT)) (st : StT) (x1 : Int32) (x2 : Int32) (x3 : Int32) (x4 : Int32) (y0 : Int32) : Option (Int32 × StT) := if inB x3 4200 = true then (if (st.2.1 0 (x3).toNatClampNeg) = (1 : Int32) then (if inB x3 2000 = true then (k2 (uA st 59 x3 (vp_nar .boolean (1 : Int32))) x1 x2 (x3 + (1 : Int32))) else none) else (if (st.2.1 0 (x3).toNatClampNeg) = (2 : Int32) then (if inB x3 4200 = true then (if inB (st.2.1 1 (x3).toNatClampNeg) 24 = true then (if ((x2 >>> ((st.2.1 58 ((st.2.1 1 (x3).toNatClampNeg)).toNatClampNeg) &&& 31)) &&& (1 : Int32)) = (1 : Int32) then (if inB x3 2000 = true then (k2 (uA st 59 x3 (vp_nar .boolean (1 : Int32))) x1 x2 (x3 + (1 : Int32))) else none) else (f_X12_comesOut_122 n k2 st x1 x2 x3 x4 y0 (st.2.1 0 (x3).toNatClampNeg) x3)) else none) else none) else (f_X12_comesOut_122 n k2 st x1 x2 x3 x4 y0 (st.2.1 0 (x3).toNatClampNeg) x3))) else none
def f_X12_comesOut_45 (n : Nat) (k2 : StT → Int32 → Int32 → Int32 → Option (Int32 × StT)) (st : StT) (x1 : Int32) (x2 : Int32) (x3 : Int32) (y0 : Int32) : Option (Int32 × StT) := if inB x3 4200 = true then (if (st.2.1 0 (x3).toNatClampNeg) < (3 : Int32) then (f_X12_comesOut_76 n k2 st x1 x2 x3 y0 (0 : Int32)) else (if inB x3 4200 = true then (if inB (st.2.1 2 (x3).toNatClampNeg) 2000 = true then (if (st.2.1 59 ((st.2.1 2 (x3).toNatClampNeg)).toNatClampNeg) = 0 then (f_X12_comesOut_76 n k2 st x1 x2 x3 y0 (0 : Int32)) else (f_X12_comesOut_76 n k2 st x1 x2 x3 y0 (1 : Int32))) else none) else none)) else none
def f_X12_comesOut_2 (n : Nat) : Nat → StT → Int32 → Int32 → Int32 → Option (Int32 × StT)
  | 0, _, _, _, _ => none
  | k + 1, st, x1, x2, x3 => if x1 < x3 then (if inB x1 2000 = true then (if isZ (st.2.1 59 (x1).toNatClampNeg) = true then some ((st.2.1 59 (x1).toNatClampNeg), st) else none) else none) else (if inB x3 2000 = true then (if (st.2.1 55 (x3).toNatClampNeg) = 0 then (f_X12_comesOut_2 n k st x1 x2 (x3 + (1 : Int32))) else (if inB x3 4200 = true then (if (st.2.1 0 (x3).toNatClampNeg) < (3 : Int32) then (f_X12_comesOut_45 n (f_X12_comesOut_2 n k) st x1 x2 x3 (0 : Int32)) else (if inB x3 4200 = true then (if inB (st.2.1 1 (x3).toNatClampNeg) 2000 = true then (if (st.2.1 59 ((st.2.1 1 (x3).toNatClampNeg)).toNatClampNeg) = 0 then (f_X12_comesOut_45 n (f_X12_comesOut_2 n k) st x1 x2 x3 (0 : Int32)) else (f_X12_comesOut_45 n (f_X12_comesOut_2 n k) st x1 x2 x3 (1 : Int32))) else none) else none)) else none)) else none)
def f_X12_comesOut (n : Nat) (st : StT) (x1 : Int32) (x2 : Int32) : Option (Int32 × StT) := f_X12_comesOut_2 n n st x1 x2 (0 : Int32)
theorem wd1360 : Cond.fieldLink RX12 201 "WorldProverModel" "isTrue" "[Z" ∈ Gw := gT6 (List.mem_of_getElem? (i := 155) rfl) rfl
theorem wd1361 : Cond.fieldLink RX12 198 "WorldProverModel" "numberOf" "[I" ∈ Gw := gT6 (List.mem_of_getElem? (i := 154) rfl) rfl
section
variable {p : Program} {l : Launch} {e : Env} {R : Room} {s : State} {m : MethodId} {args : Array Value} {below : List Frame} {meth : Method} {c : Code} {H : Heap} {locs : List Loc} {Q : State → Prop}
variable {cc : ByteArray} {nL pc : Nat} {ls : Array Slot} {rest : List Value} {D : va_G} {A : Nat → Prop} {cw : Cond} {ad : Nat → Nat} {cy : Nat → ClassId} {ee : EE} {st : StT} {own : String}
theorem gmX12_201 (F : CallFix p m c cc nL s args (cw :: Gw) RX12) (K : va_K D vwCl (tyL cy) s) (Z : ZG D (wM ad cy st) A s H locs) (hd : decode cc pc = .ok (.getfield 201, 3)) (kk : W p l e R s m args below meth c H locs 0 0 Q (F0 m (pc + 3) ls (.ref (ad 61) :: rest))) : W p l e R s m args below meth c H locs 0 0 Q (F0 m pc ls (.ref (ad 0) :: rest)) :=
  va_get (D := D) (ci := 12) (C := RX12) (T := TX12) (N := 98) F.1 F.2.1 F.2.2.2.2 (fun w h => List.mem_cons_of_mem _ (inG_X12 w h)) F.2.2.2.1 K Z.1 0 rfl rfl 97 (by decide) (F.2.2.2.2 _ (List.mem_cons_of_mem _ wd1360)) (fun _ h => h) rfl hd kk
theorem ml61 {i : Int32} (F : CallFix p m c cc nL s args (cw :: Gw) own) (K : va_K D vwCl (tyL cy) s) (Z : ZG D (wM ad cy st) A s H locs) (hi : inB i 2000 = true) (hd : decode cc pc = .ok (.baload, 1)) (kk : W p l e R s m args below meth c H locs 0 0 Q (F0 m (pc + 1) ls (.int (st.2.1 59 i.toNatClampNeg) :: rest))) : W p l e R s m args below meth c H locs 0 0 Q (F0 m pc ls (.int i :: .ref (ad 61) :: rest)) :=
  va_zald F.1 F.2.1 K Z.1 61 3 rfl rfl (inB_vp hi) hd kk
theorem ms61 {i : Int32} {v : Int32} (F : CallFix p m c cc nL s args (cw :: Gw) own) (K : va_K D vwCl (tyL cy) s) (Z : ZG D (wM ad cy st) A s H locs) (hi : inB i 2000 = true) (hd : decode cc pc = .ok (.bastore, 1)) (kk : ∀ (H1 : Heap) (locs1 : List Loc), ZG D (wM ad cy (uA st 59 i (vp_nar .boolean v))) A s H1 locs1 → W p l e R s m args below meth c H1 locs1 0 0 Q (F0 m (pc + 1) ls rest)) : W p l e R s m args below meth c H locs 0 0 Q (F0 m pc ls (.int v :: .int i :: .ref (ad 61) :: rest)) :=
  va_zast F.1 F.2.1 K Z.1 Z.2.1 Z.2.2 61 3 rfl rfl (inB_vp hi) hd (fun H1 locs1 hP hD hS => kk H1 locs1 ⟨hP, hD, hS⟩)
theorem gmX12_198 (F : CallFix p m c cc nL s args (cw :: Gw) RX12) (K : va_K D vwCl (tyL cy) s) (Z : ZG D (wM ad cy st) A s H locs) (hd : decode cc pc = .ok (.getfield 198, 3)) (kk : W p l e R s m args below meth c H locs 0 0 Q (F0 m (pc + 3) ls (.ref (ad 60) :: rest))) : W p l e R s m args below meth c H locs 0 0 Q (F0 m pc ls (.ref (ad 0) :: rest)) :=
  va_get (D := D) (ci := 12) (C := RX12) (T := TX12) (N := 98) F.1 F.2.1 F.2.2.2.2 (fun w h => List.mem_cons_of_mem _ (inG_X12 w h)) F.2.2.2.1 K Z.1 0 rfl rfl 96 (by decide) (F.2.2.2.2 _ (List.mem_cons_of_mem _ wd1361)) (fun _ h => h) rfl hd kk
theorem ml60 {i : Int32} (F : CallFix p m c cc nL s args (cw :: Gw) own) (K : va_K D vwCl (tyL cy) s) (Z : ZG D (wM ad cy st) A s H locs) (hi : inB i 24 = true) (hd : decode cc pc = .ok (.iaload, 1)) (kk : W p l e R s m args below meth c H locs 0 0 Q (F0 m (pc + 1) ls (.int (st.2.1 58 i.toNatClampNeg) :: rest))) : W p l e R s m args below meth c H locs 0 0 Q (F0 m pc ls (.int i :: .ref (ad 60) :: rest)) :=
  va_iald F.1 F.2.1 K Z.1 60 1 rfl rfl (inB_vp hi) hd kk
end
set_option maxRecDepth 100000 in
set_option maxHeartbeats 4000000 in
theorem b_X12_comesOut_154 {p : Program} {l : Launch} {e : Env} {s : State} {m : MethodId} {args : Array Value} {below : List Frame} {meth : Method} {c : Code} {D : va_G} {A : Nat → Prop} {ad : Nat → Nat} {cy : Nat → ClassId} {ee : EE} {n : Nat} {res : (Int32 × StT)} (F : CallFix p m c cX12_comesOut 7 s args (Cond.code yX12_comesOut cX12_comesOut 7 (some .boolean) :: Gw) yX12_comesOut.cls) (hr : meth.sig.returnType = (some .boolean)) (hk : meth.locks = false) (K : va_K D vwCl (tyL cy) s) (E : EV ee A s s.heap) (hA : ∀ q, s.heap.size ≤ q → A q) {k2 : StT → Int32 → Int32 → Int32 → Option (Int32 × StT)} (hk2 : ∀ (st : StT) (x1 : Int32) (x2 : Int32) (x3 : Int32), k2 st x1 x2 x3 = some res → ∀ (H : Heap) (locs : List Loc) (ls : Array Slot), ZG D (wM ad cy st) A s H locs → lv_has ls 7 [(0, .ref (ad 0)), (1, .int x1), (2, .int x2), (3, .int x3)] → W p l e { frames := 0, cells := 0, slots := 0, locals := 0 } s m args below meth c H locs 0 0 (MQ below (QC D (some (.int res.1)) (wM ad cy res.2) A) args s 0 0 A) (F0 m 2 ls [])) : ∀ (st : StT) (x1 : Int32) (x2 : Int32) (x3 : Int32) (x4 : Int32) (x5 : Int32) (x6 : Int32) (y0 : Int32), f_X12_comesOut_154 n k2 st x1 x2 x3 x4 x5 x6 y0 = some res → ∀ (H : Heap) (locs : List Loc) (ls : Array Slot), ZG D (wM ad cy st) A s H locs → lv_has ls 7 [(0, .ref (ad 0)), (1, .int x1), (2, .int x2), (3, .int x3), (4, .int x4), (5, .int x5), (6, .int x6)] → W p l e { frames := 0, cells := 0, slots := 0, locals := 0 } s m args below meth c H locs 0 0 (MQ below (QC D (some (.int res.1)) (wM ad cy res.2) A) args s 0 0 A) (F0 m 154 ls [.int y0, .ref (ad 61)]) := by
  have hx := F.1
  have hb := F.2.1
  intro st x1 x2 x3 x4 x5 x6 y0 hf H locs ls Z hl
  unfold f_X12_comesOut_154 at hf
  refine lv_iload hx hb dX12_comesOut_154 (lv_at hl 6 rfl) ?_
  refine lv_iconst (v := 5) hx hb dX12_comesOut_156 (by decide) ?_
  refine lv_icmp_ne (tgt := 174) hx hb dX12_comesOut_157 (by decide) (fun c157 => ?_) (fun c157 => ?_)
  · have hf := if_f c157 hf
    refine lv_iconst (v := 0) hx hb dX12_comesOut_174 (by decide) ?_
    obtain ⟨i175, hf⟩ := if_some hf
    refine ms61 F K Z i175 dX12_comesOut_175 (fun H locs Z => ?_)
    refine lv_iinc (v := (x3 + (1 : Int32))) (lv' := [(3, .int (x3 + (1 : Int32))), (0, .ref (ad 0)), (1, .int x1), (2, .int x2), (4, .int x4), (5, .int x5), (6, .int x6)]) hx hb dX12_comesOut_176 hl (k := 3) rfl (congrArg (fun z => x3 + z) (by decide)) (by decide) rfl (fun ls hl => ?_)
    refine lv_goto (tgt := 2) hx hb dX12_comesOut_179 (by decide) ?_
    exact hk2 _ _ _ _ hf _ _ _ Z (lv_sub hl [1, 2, 3, 0] rfl)
  have hf := if_t c157 hf
  refine lv_iload hx hb dX12_comesOut_160 (lv_at hl 4 rfl) ?_
  refine lv_if_eq (tgt := 170) hx hb dX12_comesOut_162 (by decide) (fun c162 => ?_) (fun c162 => ?_)
  · have hf := if_t c162 hf
    refine lv_iconst (v := 1) hx hb dX12_comesOut_170 (by decide) ?_
    refine lv_goto (tgt := 175) hx hb dX12_comesOut_171 (by decide) ?_
    obtain ⟨i175, hf⟩ := if_some hf
    refine ms61 F K Z i175 dX12_comesOut_175 (fun H locs Z => ?_)
    refine lv_iinc (v := (x3 + (1 : Int32))) (lv' := [(3, .int (x3 + (1 : Int32))), (0, .ref (ad 0)), (1, .int x1), (2, .int x2), (4, .int x4), (5, .int x5), (6, .int x6)]) hx hb dX12_comesOut_176 hl (k := 3) rfl (congrArg (fun z => x3 + z) (by decide)) (by decide) rfl (fun ls hl => ?_)
    refine lv_goto (tgt := 2) hx hb dX12_comesOut_179 (by decide) ?_
    exact hk2 _ _ _ _ hf _ _ _ Z (lv_sub hl [1, 2, 3, 0] rfl)
  have hf := if_f c162 hf
  refine lv_iload hx hb dX12_comesOut_165 (lv_at hl 5 rfl) ?_
  refine lv_if_eq (tgt := 174) hx hb dX12_comesOut_167 (by decide) (fun c167 => ?_) (fun c167 => ?_)
  · have hf := if_t c167 hf
    refine lv_iconst (v := 0) hx hb dX12_comesOut_174 (by decide) ?_
    obtain ⟨i175, hf⟩ := if_some hf
    refine ms61 F K Z i175 dX12_comesOut_175 (fun H locs Z => ?_)
    refine lv_iinc (v := (x3 + (1 : Int32))) (lv' := [(3, .int (x3 + (1 : Int32))), (0, .ref (ad 0)), (1, .int x1), (2, .int x2), (4, .int x4), (5, .int x5), (6, .int x6)]) hx hb dX12_comesOut_176 hl (k := 3) rfl (congrArg (fun z => x3 + z) (by decide)) (by decide) rfl (fun ls hl => ?_)
    refine lv_goto (tgt := 2) hx hb dX12_comesOut_179 (by decide) ?_
    exact hk2 _ _ _ _ hf _ _ _ Z (lv_sub hl [1, 2, 3, 0] rfl)
  have hf := if_f c167 hf
  refine lv_iconst (v := 1) hx hb dX12_comesOut_170 (by decide) ?_
  refine lv_goto (tgt := 175) hx hb dX12_comesOut_171 (by decide) ?_
  obtain ⟨i175, hf⟩ := if_some hf
  refine ms61 F K Z i175 dX12_comesOut_175 (fun H locs Z => ?_)
  refine lv_iinc (v := (x3 + (1 : Int32))) (lv' := [(3, .int (x3 + (1 : Int32))), (0, .ref (ad 0)), (1, .int x1), (2, .int x2), (4, .int x4), (5, .int x5), (6, .int x6)]) hx hb dX12_comesOut_176 hl (k := 3) rfl (congrArg (fun z => x3 + z) (by decide)) (by decide) rfl (fun ls hl => ?_)
  refine lv_goto (tgt := 2) hx hb dX12_comesOut_179 (by decide) ?_
  exact hk2 _ _ _ _ hf _ _ _ Z (lv_sub hl [1, 2, 3, 0] rfl)
set_option maxRecDepth 100000 in
set_option maxHeartbeats 4000000 in
theorem b_X12_comesOut_138 {p : Program} {l : Launch} {e : Env} {s : State} {m : MethodId} {args : Array Value} {below : List Frame} {meth : Method} {c : Code} {D : va_G} {A : Nat → Prop} {ad : Nat → Nat} {cy : Nat → ClassId} {ee : EE} {n : Nat} {res : (Int32 × StT)} (F : CallFix p m c cX12_comesOut 7 s args (Cond.code yX12_comesOut cX12_comesOut 7 (some .boolean) :: Gw) yX12_comesOut.cls) (hr : meth.sig.returnType = (some .boolean)) (hk : meth.locks = false) (K : va_K D vwCl (tyL cy) s) (E : EV ee A s s.heap) (hA : ∀ q, s.heap.size ≤ q → A q) {k2 : StT → Int32 → Int32 → Int32 → Option (Int32 × StT)} (hk2 : ∀ (st : StT) (x1 : Int32) (x2 : Int32) (x3 : Int32), k2 st x1 x2 x3 = some res → ∀ (H : Heap) (locs : List Loc) (ls : Array Slot), ZG D (wM ad cy st) A s H locs → lv_has ls 7 [(0, .ref (ad 0)), (1, .int x1), (2, .int x2), (3, .int x3)] → W p l e { frames := 0, cells := 0, slots := 0, locals := 0 } s m args below meth c H locs 0 0 (MQ below (QC D (some (.int res.1)) (wM ad cy res.2) A) args s 0 0 A) (F0 m 2 ls [])) : ∀ (st : StT) (x1 : Int32) (x2 : Int32) (x3 : Int32) (x4 : Int32) (x5 : Int32) (x6 : Int32) (y0 : Int32), f_X12_comesOut_138 n k2 st x1 x2 x3 x4 x5 x6 y0 = some res → ∀ (H : Heap) (locs : List Loc) (ls : Array Slot), ZG D (wM ad cy st) A s H locs → lv_has ls 7 [(0, .ref (ad 0)), (1, .int x1), (2, .int x2), (3, .int x3), (4, .int x4), (5, .int x5), (6, .int x6)] → W p l e { frames := 0, cells := 0, slots := 0, locals := 0 } s m args below meth c H locs 0 0 (MQ below (QC D (some (.int res.1)) (wM ad cy res.2) A) args s 0 0 A) (F0 m 138 ls [.int y0, .ref (ad 61)]) := by
  have hx := F.1
  have hb := F.2.1
  intro st x1 x2 x3 x4 x5 x6 y0 hf H locs ls Z hl
  unfold f_X12_comesOut_138 at hf
  refine lv_iload hx hb dX12_comesOut_138 (lv_at hl 6 rfl) ?_
  refine lv_iconst (v := 4) hx hb dX12_comesOut_140 (by decide) ?_
  refine lv_icmp_ne (tgt := 154) hx hb dX12_comesOut_141 (by decide) (fun c141 => ?_) (fun c141 => ?_)
  · have hf := if_f c141 hf
    exact b_X12_comesOut_154 F hr hk K E hA hk2 _ _ _ _ _ _ _ _ hf _ _ _ Z hl
  have hf := if_t c141 hf
  refine lv_iload hx hb dX12_comesOut_144 (lv_at hl 4 rfl) ?_
  refine lv_if_ne (tgt := 170) hx hb dX12_comesOut_146 (by decide) (fun c146 => ?_) (fun c146 => ?_)
  · have hf := if_f c146 hf
    refine lv_iconst (v := 1) hx hb dX12_comesOut_170 (by decide) ?_
    refine lv_goto (tgt := 175) hx hb dX12_comesOut_171 (by decide) ?_
    obtain ⟨i175, hf⟩ := if_some hf
    refine ms61 F K Z i175 dX12_comesOut_175 (fun H locs Z => ?_)
    refine lv_iinc (v := (x3 + (1 : Int32))) (lv' := [(3, .int (x3 + (1 : Int32))), (0, .ref (ad 0)), (1, .int x1), (2, .int x2), (4, .int x4), (5, .int x5), (6, .int x6)]) hx hb dX12_comesOut_176 hl (k := 3) rfl (congrArg (fun z => x3 + z) (by decide)) (by decide) rfl (fun ls hl => ?_)
    refine lv_goto (tgt := 2) hx hb dX12_comesOut_179 (by decide) ?_
    exact hk2 _ _ _ _ hf _ _ _ Z (lv_sub hl [1, 2, 3, 0] rfl)
  have hf := if_t c146 hf
  refine lv_iload hx hb dX12_comesOut_149 (lv_at hl 5 rfl) ?_
  refine lv_if_ne (tgt := 170) hx hb dX12_comesOut_151 (by decide) (fun c151 => ?_) (fun c151 => ?_)
  · have hf := if_f c151 hf
    refine lv_iconst (v := 1) hx hb dX12_comesOut_170 (by decide) ?_
    refine lv_goto (tgt := 175) hx hb dX12_comesOut_171 (by decide) ?_
    obtain ⟨i175, hf⟩ := if_some hf
    refine ms61 F K Z i175 dX12_comesOut_175 (fun H locs Z => ?_)
    refine lv_iinc (v := (x3 + (1 : Int32))) (lv' := [(3, .int (x3 + (1 : Int32))), (0, .ref (ad 0)), (1, .int x1), (2, .int x2), (4, .int x4), (5, .int x5), (6, .int x6)]) hx hb dX12_comesOut_176 hl (k := 3) rfl (congrArg (fun z => x3 + z) (by decide)) (by decide) rfl (fun ls hl => ?_)
    refine lv_goto (tgt := 2) hx hb dX12_comesOut_179 (by decide) ?_
    exact hk2 _ _ _ _ hf _ _ _ Z (lv_sub hl [1, 2, 3, 0] rfl)
  have hf := if_t c151 hf
  exact b_X12_comesOut_154 F hr hk K E hA hk2 _ _ _ _ _ _ _ _ hf _ _ _ Z hl
set_option maxRecDepth 100000 in
set_option maxHeartbeats 4000000 in
theorem b_X12_comesOut_122 {p : Program} {l : Launch} {e : Env} {s : State} {m : MethodId} {args : Array Value} {below : List Frame} {meth : Method} {c : Code} {D : va_G} {A : Nat → Prop} {ad : Nat → Nat} {cy : Nat → ClassId} {ee : EE} {n : Nat} {res : (Int32 × StT)} (F : CallFix p m c cX12_comesOut 7 s args (Cond.code yX12_comesOut cX12_comesOut 7 (some .boolean) :: Gw) yX12_comesOut.cls) (hr : meth.sig.returnType = (some .boolean)) (hk : meth.locks = false) (K : va_K D vwCl (tyL cy) s) (E : EV ee A s s.heap) (hA : ∀ q, s.heap.size ≤ q → A q) {k2 : StT → Int32 → Int32 → Int32 → Option (Int32 × StT)} (hk2 : ∀ (st : StT) (x1 : Int32) (x2 : Int32) (x3 : Int32), k2 st x1 x2 x3 = some res → ∀ (H : Heap) (locs : List Loc) (ls : Array Slot), ZG D (wM ad cy st) A s H locs → lv_has ls 7 [(0, .ref (ad 0)), (1, .int x1), (2, .int x2), (3, .int x3)] → W p l e { frames := 0, cells := 0, slots := 0, locals := 0 } s m args below meth c H locs 0 0 (MQ below (QC D (some (.int res.1)) (wM ad cy res.2) A) args s 0 0 A) (F0 m 2 ls [])) : ∀ (st : StT) (x1 : Int32) (x2 : Int32) (x3 : Int32) (x4 : Int32) (x5 : Int32) (x6 : Int32) (y0 : Int32), f_X12_comesOut_122 n k2 st x1 x2 x3 x4 x5 x6 y0 = some res → ∀ (H : Heap) (locs : List Loc) (ls : Array Slot), ZG D (wM ad cy st) A s H locs → lv_has ls 7 [(0, .ref (ad 0)), (1, .int x1), (2, .int x2), (3, .int x3), (4, .int x4), (5, .int x5), (6, .int x6)] → W p l e { frames := 0, cells := 0, slots := 0, locals := 0 } s m args below meth c H locs 0 0 (MQ below (QC D (some (.int res.1)) (wM ad cy res.2) A) args s 0 0 A) (F0 m 122 ls [.int y0, .ref (ad 61)]) := by
  have hx := F.1
  have hb := F.2.1
  intro st x1 x2 x3 x4 x5 x6 y0 hf H locs ls Z hl
  unfold f_X12_comesOut_122 at hf
  refine lv_iload hx hb dX12_comesOut_122 (lv_at hl 6 rfl) ?_
  refine lv_iconst (v := 3) hx hb dX12_comesOut_124 (by decide) ?_
  refine lv_icmp_ne (tgt := 138) hx hb dX12_comesOut_125 (by decide) (fun c125 => ?_) (fun c125 => ?_)
  · have hf := if_f c125 hf
    exact b_X12_comesOut_138 F hr hk K E hA hk2 _ _ _ _ _ _ _ _ hf _ _ _ Z hl
  have hf := if_t c125 hf
  refine lv_iload hx hb dX12_comesOut_128 (lv_at hl 4 rfl) ?_
  refine lv_if_eq (tgt := 138) hx hb dX12_comesOut_130 (by decide) (fun c130 => ?_) (fun c130 => ?_)
  · have hf := if_t c130 hf
    exact b_X12_comesOut_138 F hr hk K E hA hk2 _ _ _ _ _ _ _ _ hf _ _ _ Z hl
  have hf := if_f c130 hf
  refine lv_iload hx hb dX12_comesOut_133 (lv_at hl 5 rfl) ?_
  refine lv_if_ne (tgt := 170) hx hb dX12_comesOut_135 (by decide) (fun c135 => ?_) (fun c135 => ?_)
  · have hf := if_f c135 hf
    refine lv_iconst (v := 1) hx hb dX12_comesOut_170 (by decide) ?_
    refine lv_goto (tgt := 175) hx hb dX12_comesOut_171 (by decide) ?_
    obtain ⟨i175, hf⟩ := if_some hf
    refine ms61 F K Z i175 dX12_comesOut_175 (fun H locs Z => ?_)
    refine lv_iinc (v := (x3 + (1 : Int32))) (lv' := [(3, .int (x3 + (1 : Int32))), (0, .ref (ad 0)), (1, .int x1), (2, .int x2), (4, .int x4), (5, .int x5), (6, .int x6)]) hx hb dX12_comesOut_176 hl (k := 3) rfl (congrArg (fun z => x3 + z) (by decide)) (by decide) rfl (fun ls hl => ?_)
    refine lv_goto (tgt := 2) hx hb dX12_comesOut_179 (by decide) ?_
    exact hk2 _ _ _ _ hf _ _ _ Z (lv_sub hl [1, 2, 3, 0] rfl)
  have hf := if_t c135 hf
  exact b_X12_comesOut_138 F hr hk K E hA hk2 _ _ _ _ _ _ _ _ hf _ _ _ Z hl
set_option maxRecDepth 100000 in
set_option maxHeartbeats 4000000 in
theorem b_X12_comesOut_76 {p : Program} {l : Launch} {e : Env} {s : State} {m : MethodId} {args : Array Value} {below : List Frame} {meth : Method} {c : Code} {D : va_G} {A : Nat → Prop} {ad : Nat → Nat} {cy : Nat → ClassId} {ee : EE} {n : Nat} {res : (Int32 × StT)} (F : CallFix p m c cX12_comesOut 7 s args (Cond.code yX12_comesOut cX12_comesOut 7 (some .boolean) :: Gw) yX12_comesOut.cls) (hr : meth.sig.returnType = (some .boolean)) (hk : meth.locks = false) (K : va_K D vwCl (tyL cy) s) (E : EV ee A s s.heap) (hA : ∀ q, s.heap.size ≤ q → A q) {k2 : StT → Int32 → Int32 → Int32 → Option (Int32 × StT)} (hk2 : ∀ (st : StT) (x1 : Int32) (x2 : Int32) (x3 : Int32), k2 st x1 x2 x3 = some res → ∀ (H : Heap) (locs : List Loc) (ls : Array Slot), ZG D (wM ad cy st) A s H locs → lv_has ls 7 [(0, .ref (ad 0)), (1, .int x1), (2, .int x2), (3, .int x3)] → W p l e { frames := 0, cells := 0, slots := 0, locals := 0 } s m args below meth c H locs 0 0 (MQ below (QC D (some (.int res.1)) (wM ad cy res.2) A) args s 0 0 A) (F0 m 2 ls [])) : ∀ (st : StT) (x1 : Int32) (x2 : Int32) (x3 : Int32) (x4 : Int32) (y0 : Int32), f_X12_comesOut_76 n k2 st x1 x2 x3 x4 y0 = some res → ∀ (H : Heap) (locs : List Loc) (ls : Array Slot), ZG D (wM ad cy st) A s H locs → lv_has ls 7 [(0, .ref (ad 0)), (1, .int x1), (2, .int x2), (3, .int x3), (4, .int x4)] → W p l e { frames := 0, cells := 0, slots := 0, locals := 0 } s m args below meth c H locs 0 0 (MQ below (QC D (some (.int res.1)) (wM ad cy res.2) A) args s 0 0 A) (F0 m 76 ls [.int y0]) := by
  have hx := F.1
  have hb := F.2.1
  intro st x1 x2 x3 x4 y0 hf H locs ls Z hl
  unfold f_X12_comesOut_76 at hf
  refine lv_istore (lv' := [(5, .int y0), (0, .ref (ad 0)), (1, .int x1), (2, .int x2), (3, .int x3), (4, .int x4)]) hx hb dX12_comesOut_76 hl (by decide) rfl (fun ls hl => ?_)
  refine lv_aload_n hx hb dX12_comesOut_78 rfl (lv_at hl 1 rfl) ?_
  refine gmX12_7 F K Z dX12_comesOut_79 ?_
  refine lv_iload_n hx hb dX12_comesOut_82 rfl (lv_at hl 4 rfl) ?_
  obtain ⟨i83, hf⟩ := if_some hf
  refine ml1 F K Z i83 dX12_comesOut_83 ?_
  refine lv_istore (lv' := [(6, .int (st.2.1 0 (x3).toNatClampNeg)), (5, .int y0), (0, .ref (ad 0)), (1, .int x1), (2, .int x2), (3, .int x3), (4, .int x4)]) hx hb dX12_comesOut_84 hl (by decide) rfl (fun ls hl => ?_)
  refine lv_aload_n hx hb dX12_comesOut_86 rfl (lv_at hl 2 rfl) ?_
  refine gmX12_201 F K Z dX12_comesOut_87 ?_
  refine lv_iload_n hx hb dX12_comesOut_90 rfl (lv_at hl 5 rfl) ?_
  refine lv_iload hx hb dX12_comesOut_91 (lv_at hl 0 rfl) ?_
  refine lv_iconst (v := 1) hx hb dX12_comesOut_93 (by decide) ?_
  refine lv_icmp_eq (tgt := 170) hx hb dX12_comesOut_94 (by decide) (fun c94 => ?_) (fun c94 => ?_)
  · have hf := if_t c94 hf
    refine lv_iconst (v := 1) hx hb dX12_comesOut_170 (by decide) ?_
    refine lv_goto (tgt := 175) hx hb dX12_comesOut_171 (by decide) ?_
    obtain ⟨i175, hf⟩ := if_some hf
    refine ms61 F K Z i175 dX12_comesOut_175 (fun H locs Z => ?_)
    refine lv_iinc (v := (x3 + (1 : Int32))) (lv' := [(3, .int (x3 + (1 : Int32))), (6, .int (st.2.1 0 (x3).toNatClampNeg)), (5, .int y0), (0, .ref (ad 0)), (1, .int x1), (2, .int x2), (4, .int x4)]) hx hb dX12_comesOut_176 hl (k := 5) rfl (congrArg (fun z => x3 + z) (by decide)) (by decide) rfl (fun ls hl => ?_)
    refine lv_goto (tgt := 2) hx hb dX12_comesOut_179 (by decide) ?_
    exact hk2 _ _ _ _ hf _ _ _ Z (lv_sub hl [3, 4, 5, 0] rfl)
  have hf := if_f c94 hf
  refine lv_iload hx hb dX12_comesOut_97 (lv_at hl 0 rfl) ?_
  refine lv_iconst (v := 2) hx hb dX12_comesOut_99 (by decide) ?_
  refine lv_icmp_ne (tgt := 122) hx hb dX12_comesOut_100 (by decide) (fun c100 => ?_) (fun c100 => ?_)
  · have hf := if_f c100 hf
    exact b_X12_comesOut_122 F hr hk K E hA hk2 _ _ _ _ _ _ _ _ hf _ _ _ Z (lv_sub hl [2, 3, 4, 5, 6, 1, 0] rfl)
  have hf := if_t c100 hf
  refine lv_iload_n hx hb dX12_comesOut_103 rfl (lv_at hl 4 rfl) ?_
  refine lv_aload_n hx hb dX12_comesOut_104 rfl (lv_at hl 2 rfl) ?_
  refine gmX12_198 F K Z dX12_comesOut_105 ?_
  refine lv_aload_n hx hb dX12_comesOut_108 rfl (lv_at hl 2 rfl) ?_
  refine gmX12_13 F K Z dX12_comesOut_109 ?_
  refine lv_iload_n hx hb dX12_comesOut_112 rfl (lv_at hl 5 rfl) ?_
  obtain ⟨i113, hf⟩ := if_some hf
  refine ml2 F K Z i113 dX12_comesOut_113 ?_
  obtain ⟨i114, hf⟩ := if_some hf
  refine ml60 F K Z i114 dX12_comesOut_114 ?_
  refine lv_ishr hx hb dX12_comesOut_115 ?_
  refine lv_iconst (v := 1) hx hb dX12_comesOut_116 (by decide) ?_
  refine lv_iand hx hb dX12_comesOut_117 ?_
  refine lv_iconst (v := 1) hx hb dX12_comesOut_118 (by decide) ?_
  refine lv_icmp_eq (tgt := 170) hx hb dX12_comesOut_119 (by decide) (fun c119 => ?_) (fun c119 => ?_)
  · have hf := if_t c119 hf
    refine lv_iconst (v := 1) hx hb dX12_comesOut_170 (by decide) ?_
    refine lv_goto (tgt := 175) hx hb dX12_comesOut_171 (by decide) ?_
    obtain ⟨i175, hf⟩ := if_some hf
    refine ms61 F K Z i175 dX12_comesOut_175 (fun H locs Z => ?_)
    refine lv_iinc (v := (x3 + (1 : Int32))) (lv' := [(3, .int (x3 + (1 : Int32))), (6, .int (st.2.1 0 (x3).toNatClampNeg)), (5, .int y0), (0, .ref (ad 0)), (1, .int x1), (2, .int x2), (4, .int x4)]) hx hb dX12_comesOut_176 hl (k := 5) rfl (congrArg (fun z => x3 + z) (by decide)) (by decide) rfl (fun ls hl => ?_)
    refine lv_goto (tgt := 2) hx hb dX12_comesOut_179 (by decide) ?_
    exact hk2 _ _ _ _ hf _ _ _ Z (lv_sub hl [3, 4, 5, 0] rfl)
  have hf := if_f c119 hf
  exact b_X12_comesOut_122 F hr hk K E hA hk2 _ _ _ _ _ _ _ _ hf _ _ _ Z (lv_sub hl [2, 3, 4, 5, 6, 1, 0] rfl)
set_option maxRecDepth 100000 in
set_option maxHeartbeats 4000000 in
theorem b_X12_comesOut_45 {p : Program} {l : Launch} {e : Env} {s : State} {m : MethodId} {args : Array Value} {below : List Frame} {meth : Method} {c : Code} {D : va_G} {A : Nat → Prop} {ad : Nat → Nat} {cy : Nat → ClassId} {ee : EE} {n : Nat} {res : (Int32 × StT)} (F : CallFix p m c cX12_comesOut 7 s args (Cond.code yX12_comesOut cX12_comesOut 7 (some .boolean) :: Gw) yX12_comesOut.cls) (hr : meth.sig.returnType = (some .boolean)) (hk : meth.locks = false) (K : va_K D vwCl (tyL cy) s) (E : EV ee A s s.heap) (hA : ∀ q, s.heap.size ≤ q → A q) {k2 : StT → Int32 → Int32 → Int32 → Option (Int32 × StT)} (hk2 : ∀ (st : StT) (x1 : Int32) (x2 : Int32) (x3 : Int32), k2 st x1 x2 x3 = some res → ∀ (H : Heap) (locs : List Loc) (ls : Array Slot), ZG D (wM ad cy st) A s H locs → lv_has ls 7 [(0, .ref (ad 0)), (1, .int x1), (2, .int x2), (3, .int x3)] → W p l e { frames := 0, cells := 0, slots := 0, locals := 0 } s m args below meth c H locs 0 0 (MQ below (QC D (some (.int res.1)) (wM ad cy res.2) A) args s 0 0 A) (F0 m 2 ls [])) : ∀ (st : StT) (x1 : Int32) (x2 : Int32) (x3 : Int32) (y0 : Int32), f_X12_comesOut_45 n k2 st x1 x2 x3 y0 = some res → ∀ (H : Heap) (locs : List Loc) (ls : Array Slot), ZG D (wM ad cy st) A s H locs → lv_has ls 7 [(0, .ref (ad 0)), (1, .int x1), (2, .int x2), (3, .int x3)] → W p l e { frames := 0, cells := 0, slots := 0, locals := 0 } s m args below meth c H locs 0 0 (MQ below (QC D (some (.int res.1)) (wM ad cy res.2) A) args s 0 0 A) (F0 m 45 ls [.int y0]) := by
  have hx := F.1
  have hb := F.2.1
  intro st x1 x2 x3 y0 hf H locs ls Z hl
  unfold f_X12_comesOut_45 at hf
  refine lv_istore (lv' := [(4, .int y0), (0, .ref (ad 0)), (1, .int x1), (2, .int x2), (3, .int x3)]) hx hb dX12_comesOut_45 hl (by decide) rfl (fun ls hl => ?_)
  refine lv_aload_n hx hb dX12_comesOut_47 rfl (lv_at hl 1 rfl) ?_
  refine gmX12_7 F K Z dX12_comesOut_48 ?_
  refine lv_iload_n hx hb dX12_comesOut_51 rfl (lv_at hl 4 rfl) ?_
  obtain ⟨i52, hf⟩ := if_some hf
  refine ml1 F K Z i52 dX12_comesOut_52 ?_
  refine lv_iconst (v := 3) hx hb dX12_comesOut_53 (by decide) ?_
  refine lv_icmp_lt (tgt := 75) hx hb dX12_comesOut_54 (by decide) (fun c54 => ?_) (fun c54 => ?_)
  · have hf := if_t c54 hf
    refine lv_iconst (v := 0) hx hb dX12_comesOut_75 (by decide) ?_
    exact b_X12_comesOut_76 F hr hk K E hA hk2 _ _ _ _ _ _ hf _ _ _ Z (lv_sub hl [1, 2, 3, 4, 0] rfl)
  have hf := if_f c54 hf
  refine lv_aload_n hx hb dX12_comesOut_57 rfl (lv_at hl 1 rfl) ?_
  refine gmX12_201 F K Z dX12_comesOut_58 ?_
  refine lv_aload_n hx hb dX12_comesOut_61 rfl (lv_at hl 1 rfl) ?_
  refine gmX12_16 F K Z dX12_comesOut_62 ?_
  refine lv_iload_n hx hb dX12_comesOut_65 rfl (lv_at hl 4 rfl) ?_
  obtain ⟨i66, hf⟩ := if_some hf
  refine ml3 F K Z i66 dX12_comesOut_66 ?_
  obtain ⟨i67, hf⟩ := if_some hf
  refine ml61 F K Z i67 dX12_comesOut_67 ?_
  refine lv_if_eq (tgt := 75) hx hb dX12_comesOut_68 (by decide) (fun c68 => ?_) (fun c68 => ?_)
  · have hf := if_t c68 hf
    refine lv_iconst (v := 0) hx hb dX12_comesOut_75 (by decide) ?_
    exact b_X12_comesOut_76 F hr hk K E hA hk2 _ _ _ _ _ _ hf _ _ _ Z (lv_sub hl [1, 2, 3, 4, 0] rfl)
  have hf := if_f c68 hf
  refine lv_iconst (v := 1) hx hb dX12_comesOut_71 (by decide) ?_
  refine lv_goto (tgt := 76) hx hb dX12_comesOut_72 (by decide) ?_
  exact b_X12_comesOut_76 F hr hk K E hA hk2 _ _ _ _ _ _ hf _ _ _ Z (lv_sub hl [1, 2, 3, 4, 0] rfl)
set_option maxRecDepth 100000 in
set_option maxHeartbeats 4000000 in
theorem b_X12_comesOut_2 {p : Program} {l : Launch} {e : Env} {s : State} {m : MethodId} {args : Array Value} {below : List Frame} {meth : Method} {c : Code} {D : va_G} {A : Nat → Prop} {ad : Nat → Nat} {cy : Nat → ClassId} {ee : EE} {n : Nat} {res : (Int32 × StT)} (F : CallFix p m c cX12_comesOut 7 s args (Cond.code yX12_comesOut cX12_comesOut 7 (some .boolean) :: Gw) yX12_comesOut.cls) (hr : meth.sig.returnType = (some .boolean)) (hk : meth.locks = false) (K : va_K D vwCl (tyL cy) s) (E : EV ee A s s.heap) (hA : ∀ q, s.heap.size ≤ q → A q) : ∀ (k : Nat) (st : StT) (x1 : Int32) (x2 : Int32) (x3 : Int32), f_X12_comesOut_2 n k st x1 x2 x3 = some res → ∀ (H : Heap) (locs : List Loc) (ls : Array Slot), ZG D (wM ad cy st) A s H locs → lv_has ls 7 [(0, .ref (ad 0)), (1, .int x1), (2, .int x2), (3, .int x3)] → W p l e { frames := 0, cells := 0, slots := 0, locals := 0 } s m args below meth c H locs 0 0 (MQ below (QC D (some (.int res.1)) (wM ad cy res.2) A) args s 0 0 A) (F0 m 2 ls []) := by
  have hx := F.1
  have hb := F.2.1
  intro k
  induction k with
  | zero =>
    intro st x1 x2 x3 hf
    exact absurd hf (by simp [f_X12_comesOut_2])
  | succ k ih =>
    intro st x1 x2 x3 hf H locs ls Z hl
    rw [f_X12_comesOut_2] at hf
    refine lv_iload_n hx hb dX12_comesOut_2 rfl (lv_at hl 3 rfl) ?_
    refine lv_iload_n hx hb dX12_comesOut_3 rfl (lv_at hl 1 rfl) ?_
    refine lv_icmp_gt (tgt := 182) hx hb dX12_comesOut_4 (by decide) (fun c4 => ?_) (fun c4 => ?_)
    · have hf := if_t c4 hf
      refine lv_aload_n hx hb dX12_comesOut_182 rfl (lv_at hl 0 rfl) ?_
      refine gmX12_201 F K Z dX12_comesOut_183 ?_
      refine lv_iload_n hx hb dX12_comesOut_186 rfl (lv_at hl 1 rfl) ?_
      obtain ⟨i187, hf⟩ := if_some hf
      refine ml61 F K Z i187 dX12_comesOut_187 ?_
      obtain ⟨i188, hf⟩ := if_some hf
      have hf := Option.some.inj hf
      subst hf
      exact ret_z F hr hk Z i188 dX12_comesOut_188
    have hf := if_f c4 hf
    refine lv_aload_n hx hb dX12_comesOut_7 rfl (lv_at hl 0 rfl) ?_
    refine gmX12_188 F K Z dX12_comesOut_8 ?_
    refine lv_iload_n hx hb dX12_comesOut_11 rfl (lv_at hl 3 rfl) ?_
    obtain ⟨i12, hf⟩ := if_some hf
    refine ml57 F K Z i12 dX12_comesOut_12 ?_
    refine lv_if_eq (tgt := 176) hx hb dX12_comesOut_13 (by decide) (fun c13 => ?_) (fun c13 => ?_)
    · have hf := if_t c13 hf
      refine lv_iinc (v := (x3 + (1 : Int32))) (lv' := [(3, .int (x3 + (1 : Int32))), (0, .ref (ad 0)), (1, .int x1), (2, .int x2)]) hx hb dX12_comesOut_176 hl (k := 3) rfl (congrArg (fun z => x3 + z) (by decide)) (by decide) rfl (fun ls hl => ?_)
      refine lv_goto (tgt := 2) hx hb dX12_comesOut_179 (by decide) ?_
      exact ih _ _ _ _ hf _ _ _ Z (lv_sub hl [1, 2, 3, 0] rfl)
    have hf := if_f c13 hf
    refine lv_aload_n hx hb dX12_comesOut_16 rfl (lv_at hl 0 rfl) ?_
    refine gmX12_7 F K Z dX12_comesOut_17 ?_
    refine lv_iload_n hx hb dX12_comesOut_20 rfl (lv_at hl 3 rfl) ?_
    obtain ⟨i21, hf⟩ := if_some hf
    refine ml1 F K Z i21 dX12_comesOut_21 ?_
    refine lv_iconst (v := 3) hx hb dX12_comesOut_22 (by decide) ?_
    refine lv_icmp_lt (tgt := 44) hx hb dX12_comesOut_23 (by decide) (fun c23 => ?_) (fun c23 => ?_)
    · have hf := if_t c23 hf
      refine lv_iconst (v := 0) hx hb dX12_comesOut_44 (by decide) ?_
      exact b_X12_comesOut_45 F hr hk K E hA ih _ _ _ _ _ hf _ _ _ Z hl
    have hf := if_f c23 hf
    refine lv_aload_n hx hb dX12_comesOut_26 rfl (lv_at hl 0 rfl) ?_
    refine gmX12_201 F K Z dX12_comesOut_27 ?_
    refine lv_aload_n hx hb dX12_comesOut_30 rfl (lv_at hl 0 rfl) ?_
    refine gmX12_13 F K Z dX12_comesOut_31 ?_
    refine lv_iload_n hx hb dX12_comesOut_34 rfl (lv_at hl 3 rfl) ?_
    obtain ⟨i35, hf⟩ := if_some hf
    refine ml2 F K Z i35 dX12_comesOut_35 ?_
    obtain ⟨i36, hf⟩ := if_some hf
    refine ml61 F K Z i36 dX12_comesOut_36 ?_
    refine lv_if_eq (tgt := 44) hx hb dX12_comesOut_37 (by decide) (fun c37 => ?_) (fun c37 => ?_)
    · have hf := if_t c37 hf
      refine lv_iconst (v := 0) hx hb dX12_comesOut_44 (by decide) ?_
      exact b_X12_comesOut_45 F hr hk K E hA ih _ _ _ _ _ hf _ _ _ Z hl
    have hf := if_f c37 hf
    refine lv_iconst (v := 1) hx hb dX12_comesOut_40 (by decide) ?_
    refine lv_goto (tgt := 45) hx hb dX12_comesOut_41 (by decide) ?_
    exact b_X12_comesOut_45 F hr hk K E hA ih _ _ _ _ _ hf _ _ _ Z hl
set_option maxRecDepth 100000 in
set_option maxHeartbeats 4000000 in
theorem c_X12_comesOut {l : Launch} {D : va_G} {ad : Nat → Nat} {cy : Nat → ClassId} {ee : EE} {n : Nat} {st : StT} {x1 : Int32} {x2 : Int32} {res : (Int32 × StT)} (hf : f_X12_comesOut n st x1 x2 = some res) : CT l yX12_comesOut cX12_comesOut 7 (some .boolean) 0 0 D cy ee (wM ad cy st) (wM ad cy res.2) [.ref (ad 0), .int x1, .int x2] (some (.int res.1)) := by
  refine CT.of (by decide +kernel) (Nat.le_of_ble_eq_true rfl) ?_
  intro p e s m args below meth c A F hr hk K E hA Z ls hl
  have hl : lv_has ls 7 [(0, .ref (ad 0)), (1, .int x1), (2, .int x2)] := hl
  have hx := F.1
  have hb := F.2.1
  unfold f_X12_comesOut at hf
  refine lv_iconst (v := 0) hx hb dX12_comesOut_0 (by decide) ?_
  refine lv_istore_n (lv' := [(3, .int (0 : Int32)), (0, .ref (ad 0)), (1, .int x1), (2, .int x2)]) hx hb dX12_comesOut_1 rfl hl (by decide) rfl (fun ls hl => ?_)
  exact b_X12_comesOut_2 F hr hk K E hA _ _ _ _ _ hf _ _ _ Z (lv_sub hl [1, 2, 3, 0] rfl)
def f_X12_classical_81 (n : Nat) : Nat → StT → Int32 → Int32 → Int32 → Int32 → Option (Int32 × StT)
  | 0, _, _, _, _, _ => none
  | k + 1, st, x1, x2, x3, x4 => if ((1 : Int32) <<< (x2 &&& 31)) ≤ x4 then (if x3 = 0 then (some ((0 : Int32), st)) else (some ((1 : Int32), st))) else (if x3 = 0 then (if x3 = 0 then (some ((0 : Int32), st)) else (some ((1 : Int32), st))) else ((f_X12_comesOut n st x1 x4).bind fun q97 => (f_X12_classical_81 n k q97.2 x1 x2 q97.1 (x4 + (1 : Int32)))))
def f_X12_classical_19 (n : Nat) : Nat → StT → Int32 → Int32 → Int32 → Option (Int32 × StT)
  | 0, _, _, _, _ => none
  | k + 1, st, x1, x2, x3 => if (st.1 2) ≤ x3 then (if x2 ≤ (12 : Int32) then (f_X12_classical_81 n n st x1 x2 (1 : Int32) (0 : Int32)) else (some ((-4 : Int32), st))) else (if inB x3 24 = true then (if x1 < (st.2.1 5 (x3).toNatClampNeg) then (f_X12_classical_19 n k st x1 x2 (x3 + (1 : Int32))) else (if inB x3 24 = true then (if inB (st.2.1 5 (x3).toNatClampNeg) 2000 = true then (if (st.2.1 55 ((st.2.1 5 (x3).toNatClampNeg)).toNatClampNeg) = 0 then (f_X12_classical_19 n k st x1 x2 (x3 + (1 : Int32))) else (if inB x3 24 = true then (f_X12_classical_19 n k (uA st 58 x3 x2) x1 (x2 + (1 : Int32)) (x3 + (1 : Int32))) else none)) else none) else none)) else none)
def f_X12_classical (n : Nat) (st : StT) (x1 : Int32) : Option (Int32 × StT) := (f_X12_isFormula n st x1).bind fun q2 => (if q2.1 = 0 then (some ((-1 : Int32), q2.2)) else ((f_X12_need n q2.2 x1).bind fun q12 => (f_X12_classical_19 n n q12 x1 (0 : Int32) (0 : Int32))))
theorem wd1362 : Cond.methodLink RX12 527 yX12_comesOut ∈ Gw := gT8 (List.mem_of_getElem? (i := 221) rfl) rfl
theorem wd1363 : Cond.code yX12_comesOut prog_14_method_89_code 7 (some .boolean) ∈ Gw := gT8 (List.mem_of_getElem? (i := 224) rfl) rfl
theorem wd1364 : Cond.instanceMethod yX12_comesOut ∈ Gw := gT8 (List.mem_of_getElem? (i := 223) rfl) rfl
theorem wd1365 : Cond.selects RX12 yX12_comesOut yX12_comesOut ∈ Gw := gP9 (q := (yX12_comesOut, 98)) (List.mem_of_getElem? (i := 5) rfl)
section
variable {p : Program} {l : Launch} {e : Env} {R : Room} {s : State} {m : MethodId} {args : Array Value} {below : List Frame} {meth : Method} {c : Code} {H : Heap} {locs : List Loc} {Q : State → Prop}
variable {cc : ByteArray} {nL pc : Nat} {ls : Array Slot} {rest : List Value} {D : va_G} {A : Nat → Prop} {cw : Cond} {ad : Nat → Nat} {cy : Nat → ClassId} {ee : EE} {st : StT} {own : String}
theorem ms60 {i : Int32} {v : Int32} (F : CallFix p m c cc nL s args (cw :: Gw) own) (K : va_K D vwCl (tyL cy) s) (Z : ZG D (wM ad cy st) A s H locs) (hi : inB i 24 = true) (hd : decode cc pc = .ok (.iastore, 1)) (kk : ∀ (H1 : Heap) (locs1 : List Loc), ZG D (wM ad cy (uA st 58 i v)) A s H1 locs1 → W p l e R s m args below meth c H1 locs1 0 0 Q (F0 m (pc + 1) ls rest)) : W p l e R s m args below meth c H locs 0 0 Q (F0 m pc ls (.int v :: .int i :: .ref (ad 60) :: rest)) :=
  va_iast F.1 F.2.1 K Z.1 Z.2.1 Z.2.2 60 1 rfl rfl (inB_vp hi) hd (fun H1 locs1 hP hD hS => kk H1 locs1 ⟨hP, hD, hS⟩)
theorem krX12_527_X12_comesOut {n : Nat} {a0 : Int32} {a1 : Int32} {q : (Int32 × StT)} (F : CallFix p m c cc nL s args (cw :: Gw) RX12) (K : va_K D vwCl (tyL cy) s) (E : EV ee A s s.heap) (hA : ∀ q, s.heap.size ≤ q → A q) (Z : ZG D (wM ad cy st) A s H locs) (hf : f_X12_comesOut n st a0 a1 = some q) (hR : 1 ≤ R.frames ∧ 26 ≤ R.locals) (hl : ls.size = nL) (hst : (rest.map fun v => v.category).sum ≤ 8) (hd : decode cc pc = .ok (.invokevirtual 527, 3)) (kk : ∀ (H1 : Heap) (locs1 : List Loc), ZG D (wM ad cy q.2) A s H1 locs1 → W p l e R s m args below meth c H1 locs1 0 0 Q (F0 m (pc + 3) ls (.int q.1 :: rest))) : W p l e R s m args below meth c H locs 0 0 Q (F0 m pc ls (.int a1 :: .int a0 :: .ref (ad 0) :: rest)) :=
  call_V (q := (RX12, TX12, 98)) (n := 2) (As := [.int a0, .int a1]) (rv := some (.int q.1)) 0 12 F K E hA Z (c_X12_comesOut (l := l) (D := D) (ad := ad) (cy := cy) (ee := ee) hf) ⟨wd1363, wd1362, wd1364, wd1365, wd1008⟩ (by decide +kernel) rfl rfl hR rfl hl hst hd kk
end
set_option maxRecDepth 100000 in
set_option maxHeartbeats 4000000 in
theorem b_X12_classical_81 {p : Program} {l : Launch} {e : Env} {s : State} {m : MethodId} {args : Array Value} {below : List Frame} {meth : Method} {c : Code} {D : va_G} {A : Nat → Prop} {ad : Nat → Nat} {cy : Nat → ClassId} {ee : EE} {n : Nat} {res : (Int32 × StT)} (F : CallFix p m c cX12_classical 5 s args (Cond.code yX12_classical cX12_classical 5 (some .int) :: Gw) yX12_classical.cls) (hr : meth.sig.returnType = (some .int)) (hk : meth.locks = false) (K : va_K D vwCl (tyL cy) s) (E : EV ee A s s.heap) (hA : ∀ q, s.heap.size ≤ q → A q) : ∀ (k : Nat) (st : StT) (x1 : Int32) (x2 : Int32) (x3 : Int32) (x4 : Int32), f_X12_classical_81 n k st x1 x2 x3 x4 = some res → ∀ (H : Heap) (locs : List Loc) (ls : Array Slot), ZG D (wM ad cy st) A s H locs → lv_has ls 5 [(0, .ref (ad 0)), (1, .int x1), (2, .int x2), (3, .int x3), (4, .int x4)] → W p l e { frames := 1, cells := 0, slots := 0, locals := 26 } s m args below meth c H locs 0 0 (MQ below (QC D (some (.int res.1)) (wM ad cy res.2) A) args s 0 0 A) (F0 m 81 ls []) := by
  have hx := F.1
  have hb := F.2.1
  intro k
  induction k with
  | zero =>
    intro st x1 x2 x3 x4 hf
    exact absurd hf (by simp [f_X12_classical_81])
  | succ k ih =>
    intro st x1 x2 x3 x4 hf H locs ls Z hl
    rw [f_X12_classical_81] at hf
    refine lv_iload hx hb dX12_classical_81 (lv_at hl 4 rfl) ?_
    refine lv_iconst (v := 1) hx hb dX12_classical_83 (by decide) ?_
    refine lv_iload_n hx hb dX12_classical_84 rfl (lv_at hl 2 rfl) ?_
    refine lv_ishl hx hb dX12_classical_85 ?_
    refine lv_icmp_ge (tgt := 107) hx hb dX12_classical_86 (by decide) (fun c86 => ?_) (fun c86 => ?_)
    · have hf := if_t c86 hf
      refine lv_iload_n hx hb dX12_classical_107 rfl (lv_at hl 3 rfl) ?_
      refine lv_if_eq (tgt := 115) hx hb dX12_classical_108 (by decide) (fun c108 => ?_) (fun c108 => ?_)
      · have hf := if_t c108 hf
        refine lv_iconst (v := 0) hx hb dX12_classical_115 (by decide) ?_
        have hf := Option.some.inj hf
        subst hf
        exact ret_i F hr hk Z dX12_classical_116
      have hf := if_f c108 hf
      refine lv_iconst (v := 1) hx hb dX12_classical_111 (by decide) ?_
      refine lv_goto (tgt := 116) hx hb dX12_classical_112 (by decide) ?_
      have hf := Option.some.inj hf
      subst hf
      exact ret_i F hr hk Z dX12_classical_116
    have hf := if_f c86 hf
    refine lv_iload_n hx hb dX12_classical_89 rfl (lv_at hl 3 rfl) ?_
    refine lv_if_eq (tgt := 107) hx hb dX12_classical_90 (by decide) (fun c90 => ?_) (fun c90 => ?_)
    · have hf := if_t c90 hf
      refine lv_iload_n hx hb dX12_classical_107 rfl (lv_at hl 3 rfl) ?_
      refine lv_if_eq (tgt := 115) hx hb dX12_classical_108 (by decide) (fun c108 => ?_) (fun c108 => ?_)
      · have hf := if_t c108 hf
        refine lv_iconst (v := 0) hx hb dX12_classical_115 (by decide) ?_
        have hf := Option.some.inj hf
        subst hf
        exact ret_i F hr hk Z dX12_classical_116
      have hf := if_f c108 hf
      refine lv_iconst (v := 1) hx hb dX12_classical_111 (by decide) ?_
      refine lv_goto (tgt := 116) hx hb dX12_classical_112 (by decide) ?_
      have hf := Option.some.inj hf
      subst hf
      exact ret_i F hr hk Z dX12_classical_116
    have hf := if_f c90 hf
    refine lv_aload_n hx hb dX12_classical_93 rfl (lv_at hl 0 rfl) ?_
    refine lv_iload_n hx hb dX12_classical_94 rfl (lv_at hl 1 rfl) ?_
    refine lv_iload hx hb dX12_classical_95 (lv_at hl 4 rfl) ?_
    obtain ⟨q97, h97, hf⟩ := bind_some hf
    refine krX12_527_X12_comesOut F K E hA Z h97 ⟨Nat.le_of_ble_eq_true rfl, Nat.le_of_ble_eq_true rfl⟩ hl.1 (Nat.le_of_ble_eq_true rfl) dX12_classical_97 (fun H locs Z => ?_)
    refine lv_istore_n (lv' := [(3, .int q97.1), (0, .ref (ad 0)), (1, .int x1), (2, .int x2), (4, .int x4)]) hx hb dX12_classical_100 rfl hl (by decide) rfl (fun ls hl => ?_)
    refine lv_iinc (v := (x4 + (1 : Int32))) (lv' := [(4, .int (x4 + (1 : Int32))), (3, .int q97.1), (0, .ref (ad 0)), (1, .int x1), (2, .int x2)]) hx hb dX12_classical_101 hl (k := 4) rfl (congrArg (fun z => x4 + z) (by decide)) (by decide) rfl (fun ls hl => ?_)
    refine lv_goto (tgt := 81) hx hb dX12_classical_104 (by decide) ?_
    exact ih _ _ _ _ _ hf _ _ _ Z (lv_sub hl [2, 3, 4, 1, 0] rfl)
set_option maxRecDepth 100000 in
set_option maxHeartbeats 4000000 in
theorem b_X12_classical_19 {p : Program} {l : Launch} {e : Env} {s : State} {m : MethodId} {args : Array Value} {below : List Frame} {meth : Method} {c : Code} {D : va_G} {A : Nat → Prop} {ad : Nat → Nat} {cy : Nat → ClassId} {ee : EE} {n : Nat} {res : (Int32 × StT)} (F : CallFix p m c cX12_classical 5 s args (Cond.code yX12_classical cX12_classical 5 (some .int) :: Gw) yX12_classical.cls) (hr : meth.sig.returnType = (some .int)) (hk : meth.locks = false) (K : va_K D vwCl (tyL cy) s) (E : EV ee A s s.heap) (hA : ∀ q, s.heap.size ≤ q → A q) : ∀ (k : Nat) (st : StT) (x1 : Int32) (x2 : Int32) (x3 : Int32), f_X12_classical_19 n k st x1 x2 x3 = some res → ∀ (H : Heap) (locs : List Loc) (ls : Array Slot), ZG D (wM ad cy st) A s H locs → lv_has ls 5 [(0, .ref (ad 0)), (1, .int x1), (2, .int x2), (3, .int x3)] → W p l e { frames := 1, cells := 0, slots := 0, locals := 26 } s m args below meth c H locs 0 0 (MQ below (QC D (some (.int res.1)) (wM ad cy res.2) A) args s 0 0 A) (F0 m 19 ls []) := by
  have hx := F.1
  have hb := F.2.1
  intro k
  induction k with
  | zero =>
    intro st x1 x2 x3 hf
    exact absurd hf (by simp [f_X12_classical_19])
  | succ k ih =>
    intro st x1 x2 x3 hf H locs ls Z hl
    rw [f_X12_classical_19] at hf
    refine lv_iload_n hx hb dX12_classical_19 rfl (lv_at hl 3 rfl) ?_
    refine lv_aload_n hx hb dX12_classical_20 rfl (lv_at hl 0 rfl) ?_
    refine gmX12_280 F K Z dX12_classical_21 ?_
    refine lv_icmp_ge (tgt := 67) hx hb dX12_classical_24 (by decide) (fun c24 => ?_) (fun c24 => ?_)
    · have hf := if_t c24 hf
      refine lv_iload_n hx hb dX12_classical_67 rfl (lv_at hl 2 rfl) ?_
      refine lv_bipush (v := 12) hx hb dX12_classical_68 (by decide) ?_
      refine lv_icmp_le (tgt := 76) hx hb dX12_classical_70 (by decide) (fun c70 => ?_) (fun c70 => ?_)
      · have hf := if_t c70 hf
        refine lv_iconst (v := 1) hx hb dX12_classical_76 (by decide) ?_
        refine lv_istore_n (lv' := [(3, .int (1 : Int32)), (0, .ref (ad 0)), (1, .int x1), (2, .int x2)]) hx hb dX12_classical_77 rfl hl (by decide) rfl (fun ls hl => ?_)
        refine lv_iconst (v := 0) hx hb dX12_classical_78 (by decide) ?_
        refine lv_istore (lv' := [(4, .int (0 : Int32)), (3, .int (1 : Int32)), (0, .ref (ad 0)), (1, .int x1), (2, .int x2)]) hx hb dX12_classical_79 hl (by decide) rfl (fun ls hl => ?_)
        exact b_X12_classical_81 F hr hk K E hA _ _ _ _ _ _ hf _ _ _ Z (lv_sub hl [2, 3, 4, 1, 0] rfl)
      have hf := if_f c70 hf
      refine lv_bipush (v := -4) hx hb dX12_classical_73 (by decide) ?_
      have hf := Option.some.inj hf
      subst hf
      exact ret_i F hr hk Z dX12_classical_75
    have hf := if_f c24 hf
    refine lv_aload_n hx hb dX12_classical_27 rfl (lv_at hl 0 rfl) ?_
    refine gmX12_25 F K Z dX12_classical_28 ?_
    refine lv_iload_n hx hb dX12_classical_31 rfl (lv_at hl 3 rfl) ?_
    obtain ⟨i32, hf⟩ := if_some hf
    refine ml6 F K Z i32 dX12_classical_32 ?_
    refine lv_iload_n hx hb dX12_classical_33 rfl (lv_at hl 1 rfl) ?_
    refine lv_icmp_gt (tgt := 61) hx hb dX12_classical_34 (by decide) (fun c34 => ?_) (fun c34 => ?_)
    · have hf := if_t c34 hf
      refine lv_iinc (v := (x3 + (1 : Int32))) (lv' := [(3, .int (x3 + (1 : Int32))), (0, .ref (ad 0)), (1, .int x1), (2, .int x2)]) hx hb dX12_classical_61 hl (k := 3) rfl (congrArg (fun z => x3 + z) (by decide)) (by decide) rfl (fun ls hl => ?_)
      refine lv_goto (tgt := 19) hx hb dX12_classical_64 (by decide) ?_
      exact ih _ _ _ _ hf _ _ _ Z (lv_sub hl [1, 2, 3, 0] rfl)
    have hf := if_f c34 hf
    refine lv_aload_n hx hb dX12_classical_37 rfl (lv_at hl 0 rfl) ?_
    refine gmX12_188 F K Z dX12_classical_38 ?_
    refine lv_aload_n hx hb dX12_classical_41 rfl (lv_at hl 0 rfl) ?_
    refine gmX12_25 F K Z dX12_classical_42 ?_
    refine lv_iload_n hx hb dX12_classical_45 rfl (lv_at hl 3 rfl) ?_
    obtain ⟨i46, hf⟩ := if_some hf
    refine ml6 F K Z i46 dX12_classical_46 ?_
    obtain ⟨i47, hf⟩ := if_some hf
    refine ml57 F K Z i47 dX12_classical_47 ?_
    refine lv_if_eq (tgt := 61) hx hb dX12_classical_48 (by decide) (fun c48 => ?_) (fun c48 => ?_)
    · have hf := if_t c48 hf
      refine lv_iinc (v := (x3 + (1 : Int32))) (lv' := [(3, .int (x3 + (1 : Int32))), (0, .ref (ad 0)), (1, .int x1), (2, .int x2)]) hx hb dX12_classical_61 hl (k := 3) rfl (congrArg (fun z => x3 + z) (by decide)) (by decide) rfl (fun ls hl => ?_)
      refine lv_goto (tgt := 19) hx hb dX12_classical_64 (by decide) ?_
      exact ih _ _ _ _ hf _ _ _ Z (lv_sub hl [1, 2, 3, 0] rfl)
    have hf := if_f c48 hf
    refine lv_aload_n hx hb dX12_classical_51 rfl (lv_at hl 0 rfl) ?_
    refine gmX12_198 F K Z dX12_classical_52 ?_
    refine lv_iload_n hx hb dX12_classical_55 rfl (lv_at hl 3 rfl) ?_
    refine lv_iload_n hx hb dX12_classical_56 rfl (lv_at hl 2 rfl) ?_
    obtain ⟨i57, hf⟩ := if_some hf
    refine ms60 F K Z i57 dX12_classical_57 (fun H locs Z => ?_)
    refine lv_iinc (v := (x2 + (1 : Int32))) (lv' := [(2, .int (x2 + (1 : Int32))), (0, .ref (ad 0)), (1, .int x1), (3, .int x3)]) hx hb dX12_classical_58 hl (k := 2) rfl (congrArg (fun z => x2 + z) (by decide)) (by decide) rfl (fun ls hl => ?_)
    refine lv_iinc (v := (x3 + (1 : Int32))) (lv' := [(3, .int (x3 + (1 : Int32))), (2, .int (x2 + (1 : Int32))), (0, .ref (ad 0)), (1, .int x1)]) hx hb dX12_classical_61 hl (k := 3) rfl (congrArg (fun z => x3 + z) (by decide)) (by decide) rfl (fun ls hl => ?_)
    refine lv_goto (tgt := 19) hx hb dX12_classical_64 (by decide) ?_
    exact ih _ _ _ _ hf _ _ _ Z (lv_sub hl [2, 3, 1, 0] rfl)
set_option maxRecDepth 100000 in
set_option maxHeartbeats 4000000 in
theorem c_X12_classical {l : Launch} {D : va_G} {ad : Nat → Nat} {cy : Nat → ClassId} {ee : EE} {n : Nat} {st : StT} {x1 : Int32} {res : (Int32 × StT)} (hf : f_X12_classical n st x1 = some res) : CT l yX12_classical cX12_classical 5 (some .int) 1 26 D cy ee (wM ad cy st) (wM ad cy res.2) [.ref (ad 0), .int x1] (some (.int res.1)) := by
  refine CT.of (by decide +kernel) (Nat.le_of_ble_eq_true rfl) ?_
  intro p e s m args below meth c A F hr hk K E hA Z ls hl
  have hl : lv_has ls 5 [(0, .ref (ad 0)), (1, .int x1)] := hl
  have hx := F.1
  have hb := F.2.1
  unfold f_X12_classical at hf
  refine lv_aload_n hx hb dX12_classical_0 rfl (lv_at hl 0 rfl) ?_
  refine lv_iload_n hx hb dX12_classical_1 rfl (lv_at hl 1 rfl) ?_
  obtain ⟨q2, h2, hf⟩ := bind_some hf
  refine krX12_490_X12_isFormula F K E hA Z h2 ⟨Nat.le_of_ble_eq_true rfl, Nat.le_of_ble_eq_true rfl⟩ hl.1 (Nat.le_of_ble_eq_true rfl) dX12_classical_2 (fun H locs Z => ?_)
  refine lv_if_ne (tgt := 10) hx hb dX12_classical_5 (by decide) (fun c5 => ?_) (fun c5 => ?_)
  · have hf := if_f c5 hf
    refine lv_aload_n hx hb dX12_classical_10 rfl (lv_at hl 0 rfl) ?_
    refine lv_iload_n hx hb dX12_classical_11 rfl (lv_at hl 1 rfl) ?_
    obtain ⟨q12, h12, hf⟩ := bind_some hf
    refine krX12_493_X12_need F K E hA Z h12 ⟨Nat.le_of_ble_eq_true rfl, Nat.le_of_ble_eq_true rfl⟩ hl.1 (Nat.le_of_ble_eq_true rfl) dX12_classical_12 (fun H locs Z => ?_)
    refine lv_iconst (v := 0) hx hb dX12_classical_15 (by decide) ?_
    refine lv_istore_n (lv' := [(2, .int (0 : Int32)), (0, .ref (ad 0)), (1, .int x1)]) hx hb dX12_classical_16 rfl hl (by decide) rfl (fun ls hl => ?_)
    refine lv_iconst (v := 0) hx hb dX12_classical_17 (by decide) ?_
    refine lv_istore_n (lv' := [(3, .int (0 : Int32)), (2, .int (0 : Int32)), (0, .ref (ad 0)), (1, .int x1)]) hx hb dX12_classical_18 rfl hl (by decide) rfl (fun ls hl => ?_)
    exact b_X12_classical_19 F hr hk K E hA _ _ _ _ _ hf _ _ _ Z (lv_sub hl [2, 3, 1, 0] rfl)
  have hf := if_t c5 hf
  refine lv_iconst (v := -1) hx hb dX12_classical_8 (by decide) ?_
  have hf := Option.some.inj hf
  subst hf
  exact ret_i F hr hk Z dX12_classical_9
