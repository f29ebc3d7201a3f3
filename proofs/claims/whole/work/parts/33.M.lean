def f_X12_partsOf (n : Nat) (st : StT) (x1 : Int32) : Option (Int32 × StT) := if x1 = (67 : Int32) then (some ((3 : Int32), st)) else (if x1 = (65 : Int32) then (some ((2 : Int32), st)) else (if x1 = (80 : Int32) then (some ((2 : Int32), st)) else (some ((1 : Int32), st))))
set_option maxRecDepth 100000 in
set_option maxHeartbeats 4000000 in
theorem c_X12_partsOf {l : Launch} {D : va_G} {ad : Nat → Nat} {cy : Nat → ClassId} {ee : EE} {n : Nat} {st : StT} {x1 : Int32} {res : (Int32 × StT)} (hf : f_X12_partsOf n st x1 = some res) : CT l yX12_partsOf cX12_partsOf 2 (some .int) 0 0 D cy ee (wM ad cy st) (wM ad cy res.2) [.ref (ad 0), .int x1] (some (.int res.1)) := by
  refine CT.of (by decide +kernel) (Nat.le_of_ble_eq_true rfl) ?_
  intro p e s m args below meth c A F hr hk K E hA Z ls hl
  have hl : lv_has ls 2 [(0, .ref (ad 0)), (1, .int x1)] := hl
  have hx := F.1
  have hb := F.2.1
  unfold f_X12_partsOf at hf
  refine lv_iload_n hx hb dX12_partsOf_0 rfl (lv_at hl 1 rfl) ?_
  refine lv_bipush (v := 67) hx hb dX12_partsOf_1 (by decide) ?_
  refine lv_icmp_ne (tgt := 10) hx hb dX12_partsOf_3 (by decide) (fun c3 => ?_) (fun c3 => ?_)
  · have hf := if_f c3 hf
    refine lv_iload_n hx hb dX12_partsOf_10 rfl (lv_at hl 1 rfl) ?_
    refine lv_bipush (v := 65) hx hb dX12_partsOf_11 (by decide) ?_
    refine lv_icmp_eq (tgt := 22) hx hb dX12_partsOf_13 (by decide) (fun c13 => ?_) (fun c13 => ?_)
    · have hf := if_t c13 hf
      refine lv_iconst (v := 2) hx hb dX12_partsOf_22 (by decide) ?_
      refine lv_goto (tgt := 27) hx hb dX12_partsOf_23 (by decide) ?_
      have hf := Option.some.inj hf
      subst hf
      exact ret_i F hr hk Z dX12_partsOf_27
    have hf := if_f c13 hf
    refine lv_iload_n hx hb dX12_partsOf_16 rfl (lv_at hl 1 rfl) ?_
    refine lv_bipush (v := 80) hx hb dX12_partsOf_17 (by decide) ?_
    refine lv_icmp_ne (tgt := 26) hx hb dX12_partsOf_19 (by decide) (fun c19 => ?_) (fun c19 => ?_)
    · have hf := if_f c19 hf
      refine lv_iconst (v := 1) hx hb dX12_partsOf_26 (by decide) ?_
      have hf := Option.some.inj hf
      subst hf
      exact ret_i F hr hk Z dX12_partsOf_27
    have hf := if_t c19 hf
    refine lv_iconst (v := 2) hx hb dX12_partsOf_22 (by decide) ?_
    refine lv_goto (tgt := 27) hx hb dX12_partsOf_23 (by decide) ?_
    have hf := Option.some.inj hf
    subst hf
    exact ret_i F hr hk Z dX12_partsOf_27
  have hf := if_t c3 hf
  refine lv_iconst (v := 3) hx hb dX12_partsOf_6 (by decide) ?_
  refine lv_goto (tgt := 27) hx hb dX12_partsOf_7 (by decide) ?_
  have hf := Option.some.inj hf
  subst hf
  exact ret_i F hr hk Z dX12_partsOf_27
def f_X12_readHypothesis_122 (n : Nat) (st : StT) (x2 : Int32) : Option (Int32 × StT) := if x2 = 0 then ((f_X12_fail n st (2 : Int32) (st.1 6)).bind fun q137 => (some ((-1 : Int32), q137.2))) else ((f_X12_fail n st (6 : Int32) (st.1 6)).bind fun q137 => (some ((-1 : Int32), q137.2)))
def f_X12_readHypothesis_113 (n : Nat) (st : StT) (x1 : Int32) (x2 : Int32) (x3 : Int32) : Option (Int32 × StT) := if x2 = 0 then (f_X12_readHypothesis_122 n st x2) else (if x3 < x1 then (some (x3, st)) else (f_X12_readHypothesis_122 n st x2))
def f_X12_readHypothesis_57 (n : Nat) : Nat → StT → Int32 → Int32 → Int32 → Int32 → Option (Int32 × StT)
  | 0, _, _, _, _, _ => none
  | k + 1, st, x1, x2, x3, x4 => if (st.1 7) ≤ x4 then (f_X12_readHypothesis_113 n st x1 x2 x3) else (if x2 = 0 then (f_X12_readHypothesis_113 n st x1 x2 x3) else (if inB ((st.1 6) + x4) 3000 = true then ((f_X12_isDigit n st (st.2.1 6 (((st.1 6) + x4)).toNatClampNeg)).bind fun q82 => (if inB ((q82.2.1 6) + x4) 3000 = true then (f_X12_readHypothesis_57 n k q82.2 x1 q82.1 ((((10 : Int32) * x3) + (q82.2.2.1 6 (((q82.2.1 6) + x4)).toNatClampNeg)) - (48 : Int32)) (x4 + (1 : Int32))) else none)) else none))
def f_X12_readHypothesis_46 (n : Nat) (st : StT) (x1 : Int32) : Option (Int32 × StT) := f_X12_readHypothesis_57 n n st x1 (1 : Int32) (0 : Int32) (1 : Int32)
def f_X12_readHypothesis (n : Nat) (st : StT) (x1 : Int32) : Option (Int32 × StT) := if (st.1 7) ≤ (1 : Int32) then (f_X12_readHypothesis_57 n n st x1 (0 : Int32) (0 : Int32) (1 : Int32)) else (if inB (st.1 6) 3000 = true then (if (st.2.1 6 ((st.1 6)).toNatClampNeg) = (104 : Int32) then (if inB ((st.1 6) + (1 : Int32)) 3000 = true then (if (st.2.1 6 (((st.1 6) + (1 : Int32))).toNatClampNeg) = (48 : Int32) then (if (st.1 7) = (2 : Int32) then (f_X12_readHypothesis_46 n st x1) else (f_X12_readHypothesis_57 n n st x1 (0 : Int32) (0 : Int32) (1 : Int32))) else (f_X12_readHypothesis_46 n st x1)) else none) else (f_X12_readHypothesis_57 n n st x1 (0 : Int32) (0 : Int32) (1 : Int32))) else none)
set_option maxRecDepth 100000 in
set_option maxHeartbeats 4000000 in
theorem b_X12_readHypothesis_122 {p : Program} {l : Launch} {e : Env} {s : State} {m : MethodId} {args : Array Value} {below : List Frame} {meth : Method} {c : Code} {D : va_G} {A : Nat → Prop} {ad : Nat → Nat} {cy : Nat → ClassId} {ee : EE} {n : Nat} {res : (Int32 × StT)} (F : CallFix p m c cX12_readHypothesis 5 s args (Cond.code yX12_readHypothesis cX12_readHypothesis 5 (some .int) :: Gw) yX12_readHypothesis.cls) (hr : meth.sig.returnType = (some .int)) (hk : meth.locks = false) (K : va_K D vwCl (tyL cy) s) (E : EV ee A s s.heap) (hA : ∀ q, s.heap.size ≤ q → A q) : ∀ (st : StT) (x2 : Int32), f_X12_readHypothesis_122 n st x2 = some res → ∀ (H : Heap) (locs : List Loc) (ls : Array Slot), ZG D (wM ad cy st) A s H locs → lv_has ls 5 [(0, .ref (ad 0)), (2, .int x2)] → W p l e { frames := 1, cells := 0, slots := 0, locals := 22 } s m args below meth c H locs 0 0 (MQ below (QC D (some (.int res.1)) (wM ad cy res.2) A) args s 0 0 A) (F0 m 122 ls []) := by
  have hx := F.1
  have hb := F.2.1
  intro st x2 hf H locs ls Z hl
  unfold f_X12_readHypothesis_122 at hf
  refine lv_aload_n hx hb dX12_readHypothesis_122 rfl (lv_at hl 0 rfl) ?_
  refine lv_iload_n hx hb dX12_readHypothesis_123 rfl (lv_at hl 1 rfl) ?_
  refine lv_if_eq (tgt := 132) hx hb dX12_readHypothesis_124 (by decide) (fun c124 => ?_) (fun c124 => ?_)
  · have hf := if_t c124 hf
    refine lv_iconst (v := 2) hx hb dX12_readHypothesis_132 (by decide) ?_
    refine lv_aload_n hx hb dX12_readHypothesis_133 rfl (lv_at hl 0 rfl) ?_
    refine gmX12_227 F K Z dX12_readHypothesis_134 ?_
    obtain ⟨q137, h137, hf⟩ := bind_some hf
    refine krX12_266_X12_fail F K E hA Z h137 ⟨Nat.le_of_ble_eq_true rfl, Nat.le_of_ble_eq_true rfl⟩ hl.1 (Nat.le_of_ble_eq_true rfl) dX12_readHypothesis_137 (fun H locs Z => ?_)
    refine lv_istore (lv' := [(4, .int q137.1), (0, .ref (ad 0)), (2, .int x2)]) hx hb dX12_readHypothesis_140 hl (by decide) rfl (fun ls hl => ?_)
    refine lv_iconst (v := -1) hx hb dX12_readHypothesis_142 (by decide) ?_
    have hf := Option.some.inj hf
    subst hf
    exact ret_i F hr hk Z dX12_readHypothesis_143
  have hf := if_f c124 hf
  refine lv_bipush (v := 6) hx hb dX12_readHypothesis_127 (by decide) ?_
  refine lv_goto (tgt := 133) hx hb dX12_readHypothesis_129 (by decide) ?_
  refine lv_aload_n hx hb dX12_readHypothesis_133 rfl (lv_at hl 0 rfl) ?_
  refine gmX12_227 F K Z dX12_readHypothesis_134 ?_
  obtain ⟨q137, h137, hf⟩ := bind_some hf
  refine krX12_266_X12_fail F K E hA Z h137 ⟨Nat.le_of_ble_eq_true rfl, Nat.le_of_ble_eq_true rfl⟩ hl.1 (Nat.le_of_ble_eq_true rfl) dX12_readHypothesis_137 (fun H locs Z => ?_)
  refine lv_istore (lv' := [(4, .int q137.1), (0, .ref (ad 0)), (2, .int x2)]) hx hb dX12_readHypothesis_140 hl (by decide) rfl (fun ls hl => ?_)
  refine lv_iconst (v := -1) hx hb dX12_readHypothesis_142 (by decide) ?_
  have hf := Option.some.inj hf
  subst hf
  exact ret_i F hr hk Z dX12_readHypothesis_143
set_option maxRecDepth 100000 in
set_option maxHeartbeats 4000000 in
theorem b_X12_readHypothesis_113 {p : Program} {l : Launch} {e : Env} {s : State} {m : MethodId} {args : Array Value} {below : List Frame} {meth : Method} {c : Code} {D : va_G} {A : Nat → Prop} {ad : Nat → Nat} {cy : Nat → ClassId} {ee : EE} {n : Nat} {res : (Int32 × StT)} (F : CallFix p m c cX12_readHypothesis 5 s args (Cond.code yX12_readHypothesis cX12_readHypothesis 5 (some .int) :: Gw) yX12_readHypothesis.cls) (hr : meth.sig.returnType = (some .int)) (hk : meth.locks = false) (K : va_K D vwCl (tyL cy) s) (E : EV ee A s s.heap) (hA : ∀ q, s.heap.size ≤ q → A q) : ∀ (st : StT) (x1 : Int32) (x2 : Int32) (x3 : Int32), f_X12_readHypothesis_113 n st x1 x2 x3 = some res → ∀ (H : Heap) (locs : List Loc) (ls : Array Slot), ZG D (wM ad cy st) A s H locs → lv_has ls 5 [(0, .ref (ad 0)), (1, .int x1), (2, .int x2), (3, .int x3)] → W p l e { frames := 1, cells := 0, slots := 0, locals := 22 } s m args below meth c H locs 0 0 (MQ below (QC D (some (.int res.1)) (wM ad cy res.2) A) args s 0 0 A) (F0 m 113 ls []) := by
  have hx := F.1
  have hb := F.2.1
  intro st x1 x2 x3 hf H locs ls Z hl
  unfold f_X12_readHypothesis_113 at hf
  refine lv_iload_n hx hb dX12_readHypothesis_113 rfl (lv_at hl 2 rfl) ?_
  refine lv_if_eq (tgt := 122) hx hb dX12_readHypothesis_114 (by decide) (fun c114 => ?_) (fun c114 => ?_)
  · have hf := if_t c114 hf
    exact b_X12_readHypothesis_122 F hr hk K E hA _ _ hf _ _ _ Z (lv_sub hl [0, 2] rfl)
  have hf := if_f c114 hf
  refine lv_iload_n hx hb dX12_readHypothesis_117 rfl (lv_at hl 3 rfl) ?_
  refine lv_iload_n hx hb dX12_readHypothesis_118 rfl (lv_at hl 1 rfl) ?_
  refine lv_icmp_lt (tgt := 144) hx hb dX12_readHypothesis_119 (by decide) (fun c119 => ?_) (fun c119 => ?_)
  · have hf := if_t c119 hf
    refine lv_iload_n hx hb dX12_readHypothesis_144 rfl (lv_at hl 3 rfl) ?_
    have hf := Option.some.inj hf
    subst hf
    exact ret_i F hr hk Z dX12_readHypothesis_145
  have hf := if_f c119 hf
  exact b_X12_readHypothesis_122 F hr hk K E hA _ _ hf _ _ _ Z (lv_sub hl [0, 2] rfl)
set_option maxRecDepth 100000 in
set_option maxHeartbeats 4000000 in
theorem b_X12_readHypothesis_57 {p : Program} {l : Launch} {e : Env} {s : State} {m : MethodId} {args : Array Value} {below : List Frame} {meth : Method} {c : Code} {D : va_G} {A : Nat → Prop} {ad : Nat → Nat} {cy : Nat → ClassId} {ee : EE} {n : Nat} {res : (Int32 × StT)} (F : CallFix p m c cX12_readHypothesis 5 s args (Cond.code yX12_readHypothesis cX12_readHypothesis 5 (some .int) :: Gw) yX12_readHypothesis.cls) (hr : meth.sig.returnType = (some .int)) (hk : meth.locks = false) (K : va_K D vwCl (tyL cy) s) (E : EV ee A s s.heap) (hA : ∀ q, s.heap.size ≤ q → A q) : ∀ (k : Nat) (st : StT) (x1 : Int32) (x2 : Int32) (x3 : Int32) (x4 : Int32), f_X12_readHypothesis_57 n k st x1 x2 x3 x4 = some res → ∀ (H : Heap) (locs : List Loc) (ls : Array Slot), ZG D (wM ad cy st) A s H locs → lv_has ls 5 [(0, .ref (ad 0)), (1, .int x1), (2, .int x2), (3, .int x3), (4, .int x4)] → W p l e { frames := 1, cells := 0, slots := 0, locals := 22 } s m args below meth c H locs 0 0 (MQ below (QC D (some (.int res.1)) (wM ad cy res.2) A) args s 0 0 A) (F0 m 57 ls []) := by
  have hx := F.1
  have hb := F.2.1
  intro k
  induction k with
  | zero =>
    intro st x1 x2 x3 x4 hf
    exact absurd hf (by simp [f_X12_readHypothesis_57])
  | succ k ih =>
    intro st x1 x2 x3 x4 hf H locs ls Z hl
    rw [f_X12_readHypothesis_57] at hf
    refine lv_iload hx hb dX12_readHypothesis_57 (lv_at hl 4 rfl) ?_
    refine lv_aload_n hx hb dX12_readHypothesis_59 rfl (lv_at hl 0 rfl) ?_
    refine gmX12_224 F K Z dX12_readHypothesis_60 ?_
    refine lv_icmp_ge (tgt := 113) hx hb dX12_readHypothesis_63 (by decide) (fun c63 => ?_) (fun c63 => ?_)
    · have hf := if_t c63 hf
      exact b_X12_readHypothesis_113 F hr hk K E hA _ _ _ _ hf _ _ _ Z (lv_sub hl [0, 1, 2, 3] rfl)
    have hf := if_f c63 hf
    refine lv_iload_n hx hb dX12_readHypothesis_66 rfl (lv_at hl 2 rfl) ?_
    refine lv_if_eq (tgt := 113) hx hb dX12_readHypothesis_67 (by decide) (fun c67 => ?_) (fun c67 => ?_)
    · have hf := if_t c67 hf
      exact b_X12_readHypothesis_113 F hr hk K E hA _ _ _ _ hf _ _ _ Z (lv_sub hl [0, 1, 2, 3] rfl)
    have hf := if_f c67 hf
    refine lv_aload_n hx hb dX12_readHypothesis_70 rfl (lv_at hl 0 rfl) ?_
    refine gmX12_28 F K Z dX12_readHypothesis_71 ?_
    refine lv_aload_n hx hb dX12_readHypothesis_74 rfl (lv_at hl 0 rfl) ?_
    refine gmX12_227 F K Z dX12_readHypothesis_75 ?_
    refine lv_iload hx hb dX12_readHypothesis_78 (lv_at hl 4 rfl) ?_
    refine lv_iadd hx hb dX12_readHypothesis_80 ?_
    obtain ⟨i81, hf⟩ := if_some hf
    refine ml7 F K Z i81 dX12_readHypothesis_81 ?_
    obtain ⟨q82, h82, hf⟩ := bind_some hf
    refine krX12_247_X12_isDigit F K E hA Z h82 ⟨Nat.le_of_ble_eq_true rfl, Nat.le_of_ble_eq_true rfl⟩ hl.1 (Nat.le_of_ble_eq_true rfl) dX12_readHypothesis_82 (fun H locs Z => ?_)
    refine lv_istore_n (lv' := [(2, .int q82.1), (0, .ref (ad 0)), (1, .int x1), (3, .int x3), (4, .int x4)]) hx hb dX12_readHypothesis_85 rfl hl (by decide) rfl (fun ls hl => ?_)
    refine lv_bipush (v := 10) hx hb dX12_readHypothesis_86 (by decide) ?_
    refine lv_iload_n hx hb dX12_readHypothesis_88 rfl (lv_at hl 3 rfl) ?_
    refine lv_imul hx hb dX12_readHypothesis_89 ?_
    refine lv_aload_n hx hb dX12_readHypothesis_90 rfl (lv_at hl 1 rfl) ?_
    refine gmX12_28 F K Z dX12_readHypothesis_91 ?_
    refine lv_aload_n hx hb dX12_readHypothesis_94 rfl (lv_at hl 1 rfl) ?_
    refine gmX12_227 F K Z dX12_readHypothesis_95 ?_
    refine lv_iload hx hb dX12_readHypothesis_98 (lv_at hl 4 rfl) ?_
    refine lv_iadd hx hb dX12_readHypothesis_100 ?_
    obtain ⟨i101, hf⟩ := if_some hf
    refine ml7 F K Z i101 dX12_readHypothesis_101 ?_
    refine lv_iadd hx hb dX12_readHypothesis_102 ?_
    refine lv_bipush (v := 48) hx hb dX12_readHypothesis_103 (by decide) ?_
    refine lv_isub hx hb dX12_readHypothesis_105 ?_
    refine lv_istore_n (lv' := [(3, .int ((((10 : Int32) * x3) + (q82.2.2.1 6 (((q82.2.1 6) + x4)).toNatClampNeg)) - (48 : Int32))), (2, .int q82.1), (0, .ref (ad 0)), (1, .int x1), (4, .int x4)]) hx hb dX12_readHypothesis_106 rfl hl (by decide) rfl (fun ls hl => ?_)
    refine lv_iinc (v := (x4 + (1 : Int32))) (lv' := [(4, .int (x4 + (1 : Int32))), (3, .int ((((10 : Int32) * x3) + (q82.2.2.1 6 (((q82.2.1 6) + x4)).toNatClampNeg)) - (48 : Int32))), (2, .int q82.1), (0, .ref (ad 0)), (1, .int x1)]) hx hb dX12_readHypothesis_107 hl (k := 4) rfl (congrArg (fun z => x4 + z) (by decide)) (by decide) rfl (fun ls hl => ?_)
    refine lv_goto (tgt := 57) hx hb dX12_readHypothesis_110 (by decide) ?_
    exact ih _ _ _ _ _ hf _ _ _ Z (lv_sub hl [3, 4, 2, 1, 0] rfl)
set_option maxRecDepth 100000 in
set_option maxHeartbeats 4000000 in
theorem b_X12_readHypothesis_46 {p : Program} {l : Launch} {e : Env} {s : State} {m : MethodId} {args : Array Value} {below : List Frame} {meth : Method} {c : Code} {D : va_G} {A : Nat → Prop} {ad : Nat → Nat} {cy : Nat → ClassId} {ee : EE} {n : Nat} {res : (Int32 × StT)} (F : CallFix p m c cX12_readHypothesis 5 s args (Cond.code yX12_readHypothesis cX12_readHypothesis 5 (some .int) :: Gw) yX12_readHypothesis.cls) (hr : meth.sig.returnType = (some .int)) (hk : meth.locks = false) (K : va_K D vwCl (tyL cy) s) (E : EV ee A s s.heap) (hA : ∀ q, s.heap.size ≤ q → A q) : ∀ (st : StT) (x1 : Int32), f_X12_readHypothesis_46 n st x1 = some res → ∀ (H : Heap) (locs : List Loc) (ls : Array Slot), ZG D (wM ad cy st) A s H locs → lv_has ls 5 [(0, .ref (ad 0)), (1, .int x1)] → W p l e { frames := 1, cells := 0, slots := 0, locals := 22 } s m args below meth c H locs 0 0 (MQ below (QC D (some (.int res.1)) (wM ad cy res.2) A) args s 0 0 A) (F0 m 46 ls []) := by
  have hx := F.1
  have hb := F.2.1
  intro st x1 hf H locs ls Z hl
  unfold f_X12_readHypothesis_46 at hf
  refine lv_iconst (v := 1) hx hb dX12_readHypothesis_46 (by decide) ?_
  refine lv_goto (tgt := 51) hx hb dX12_readHypothesis_47 (by decide) ?_
  refine lv_istore_n (lv' := [(2, .int (1 : Int32)), (0, .ref (ad 0)), (1, .int x1)]) hx hb dX12_readHypothesis_51 rfl hl (by decide) rfl (fun ls hl => ?_)
  refine lv_iconst (v := 0) hx hb dX12_readHypothesis_52 (by decide) ?_
  refine lv_istore_n (lv' := [(3, .int (0 : Int32)), (2, .int (1 : Int32)), (0, .ref (ad 0)), (1, .int x1)]) hx hb dX12_readHypothesis_53 rfl hl (by decide) rfl (fun ls hl => ?_)
  refine lv_iconst (v := 1) hx hb dX12_readHypothesis_54 (by decide) ?_
  refine lv_istore (lv' := [(4, .int (1 : Int32)), (3, .int (0 : Int32)), (2, .int (1 : Int32)), (0, .ref (ad 0)), (1, .int x1)]) hx hb dX12_readHypothesis_55 hl (by decide) rfl (fun ls hl => ?_)
  exact b_X12_readHypothesis_57 F hr hk K E hA _ _ _ _ _ _ hf _ _ _ Z (lv_sub hl [3, 4, 2, 1, 0] rfl)
set_option maxRecDepth 100000 in
set_option maxHeartbeats 4000000 in
theorem c_X12_readHypothesis {l : Launch} {D : va_G} {ad : Nat → Nat} {cy : Nat → ClassId} {ee : EE} {n : Nat} {st : StT} {x1 : Int32} {res : (Int32 × StT)} (hf : f_X12_readHypothesis n st x1 = some res) : CT l yX12_readHypothesis cX12_readHypothesis 5 (some .int) 1 22 D cy ee (wM ad cy st) (wM ad cy res.2) [.ref (ad 0), .int x1] (some (.int res.1)) := by
  refine CT.of (by decide +kernel) (Nat.le_of_ble_eq_true rfl) ?_
  intro p e s m args below meth c A F hr hk K E hA Z ls hl
  have hl : lv_has ls 5 [(0, .ref (ad 0)), (1, .int x1)] := hl
  have hx := F.1
  have hb := F.2.1
  unfold f_X12_readHypothesis at hf
  refine lv_aload_n hx hb dX12_readHypothesis_0 rfl (lv_at hl 0 rfl) ?_
  refine gmX12_224 F K Z dX12_readHypothesis_1 ?_
  refine lv_iconst (v := 1) hx hb dX12_readHypothesis_4 (by decide) ?_
  refine lv_icmp_le (tgt := 50) hx hb dX12_readHypothesis_5 (by decide) (fun c5 => ?_) (fun c5 => ?_)
  · have hf := if_t c5 hf
    refine lv_iconst (v := 0) hx hb dX12_readHypothesis_50 (by decide) ?_
    refine lv_istore_n (lv' := [(2, .int (0 : Int32)), (0, .ref (ad 0)), (1, .int x1)]) hx hb dX12_readHypothesis_51 rfl hl (by decide) rfl (fun ls hl => ?_)
    refine lv_iconst (v := 0) hx hb dX12_readHypothesis_52 (by decide) ?_
    refine lv_istore_n (lv' := [(3, .int (0 : Int32)), (2, .int (0 : Int32)), (0, .ref (ad 0)), (1, .int x1)]) hx hb dX12_readHypothesis_53 rfl hl (by decide) rfl (fun ls hl => ?_)
    refine lv_iconst (v := 1) hx hb dX12_readHypothesis_54 (by decide) ?_
    refine lv_istore (lv' := [(4, .int (1 : Int32)), (3, .int (0 : Int32)), (2, .int (0 : Int32)), (0, .ref (ad 0)), (1, .int x1)]) hx hb dX12_readHypothesis_55 hl (by decide) rfl (fun ls hl => ?_)
    exact b_X12_readHypothesis_57 F hr hk K E hA _ _ _ _ _ _ hf _ _ _ Z (lv_sub hl [3, 4, 2, 1, 0] rfl)
  have hf := if_f c5 hf
  refine lv_aload_n hx hb dX12_readHypothesis_8 rfl (lv_at hl 0 rfl) ?_
  refine gmX12_28 F K Z dX12_readHypothesis_9 ?_
  refine lv_aload_n hx hb dX12_readHypothesis_12 rfl (lv_at hl 0 rfl) ?_
  refine gmX12_227 F K Z dX12_readHypothesis_13 ?_
  obtain ⟨i16, hf⟩ := if_some hf
  refine ml7 F K Z i16 dX12_readHypothesis_16 ?_
  refine lv_bipush (v := 104) hx hb dX12_readHypothesis_17 (by decide) ?_
  refine lv_icmp_ne (tgt := 50) hx hb dX12_readHypothesis_19 (by decide) (fun c19 => ?_) (fun c19 => ?_)
  · have hf := if_f c19 hf
    refine lv_iconst (v := 0) hx hb dX12_readHypothesis_50 (by decide) ?_
    refine lv_istore_n (lv' := [(2, .int (0 : Int32)), (0, .ref (ad 0)), (1, .int x1)]) hx hb dX12_readHypothesis_51 rfl hl (by decide) rfl (fun ls hl => ?_)
    refine lv_iconst (v := 0) hx hb dX12_readHypothesis_52 (by decide) ?_
    refine lv_istore_n (lv' := [(3, .int (0 : Int32)), (2, .int (0 : Int32)), (0, .ref (ad 0)), (1, .int x1)]) hx hb dX12_readHypothesis_53 rfl hl (by decide) rfl (fun ls hl => ?_)
    refine lv_iconst (v := 1) hx hb dX12_readHypothesis_54 (by decide) ?_
    refine lv_istore (lv' := [(4, .int (1 : Int32)), (3, .int (0 : Int32)), (2, .int (0 : Int32)), (0, .ref (ad 0)), (1, .int x1)]) hx hb dX12_readHypothesis_55 hl (by decide) rfl (fun ls hl => ?_)
    exact b_X12_readHypothesis_57 F hr hk K E hA _ _ _ _ _ _ hf _ _ _ Z (lv_sub hl [3, 4, 2, 1, 0] rfl)
  have hf := if_t c19 hf
  refine lv_aload_n hx hb dX12_readHypothesis_22 rfl (lv_at hl 0 rfl) ?_
  refine gmX12_28 F K Z dX12_readHypothesis_23 ?_
  refine lv_aload_n hx hb dX12_readHypothesis_26 rfl (lv_at hl 0 rfl) ?_
  refine gmX12_227 F K Z dX12_readHypothesis_27 ?_
  refine lv_iconst (v := 1) hx hb dX12_readHypothesis_30 (by decide) ?_
  refine lv_iadd hx hb dX12_readHypothesis_31 ?_
  obtain ⟨i32, hf⟩ := if_some hf
  refine ml7 F K Z i32 dX12_readHypothesis_32 ?_
  refine lv_bipush (v := 48) hx hb dX12_readHypothesis_33 (by decide) ?_
  refine lv_icmp_ne (tgt := 46) hx hb dX12_readHypothesis_35 (by decide) (fun c35 => ?_) (fun c35 => ?_)
  · have hf := if_f c35 hf
    exact b_X12_readHypothesis_46 F hr hk K E hA _ _ hf _ _ _ Z hl
  have hf := if_t c35 hf
  refine lv_aload_n hx hb dX12_readHypothesis_38 rfl (lv_at hl 0 rfl) ?_
  refine gmX12_224 F K Z dX12_readHypothesis_39 ?_
  refine lv_iconst (v := 2) hx hb dX12_readHypothesis_42 (by decide) ?_
  refine lv_icmp_ne (tgt := 50) hx hb dX12_readHypothesis_43 (by decide) (fun c43 => ?_) (fun c43 => ?_)
  · have hf := if_f c43 hf
    refine lv_iconst (v := 0) hx hb dX12_readHypothesis_50 (by decide) ?_
    refine lv_istore_n (lv' := [(2, .int (0 : Int32)), (0, .ref (ad 0)), (1, .int x1)]) hx hb dX12_readHypothesis_51 rfl hl (by decide) rfl (fun ls hl => ?_)
    refine lv_iconst (v := 0) hx hb dX12_readHypothesis_52 (by decide) ?_
    refine lv_istore_n (lv' := [(3, .int (0 : Int32)), (2, .int (0 : Int32)), (0, .ref (ad 0)), (1, .int x1)]) hx hb dX12_readHypothesis_53 rfl hl (by decide) rfl (fun ls hl => ?_)
    refine lv_iconst (v := 1) hx hb dX12_readHypothesis_54 (by decide) ?_
    refine lv_istore (lv' := [(4, .int (1 : Int32)), (3, .int (0 : Int32)), (2, .int (0 : Int32)), (0, .ref (ad 0)), (1, .int x1)]) hx hb dX12_readHypothesis_55 hl (by decide) rfl (fun ls hl => ?_)
    exact b_X12_readHypothesis_57 F hr hk K E hA _ _ _ _ _ _ hf _ _ _ Z (lv_sub hl [3, 4, 2, 1, 0] rfl)
  have hf := if_t c43 hf
  exact b_X12_readHypothesis_46 F hr hk K E hA _ _ hf _ _ _ Z hl
def f_X12_newTerm (n : Nat) (st : StT) (x1 : Int32) (x2 : Int32) : Option (Int32 × StT) := if inB (st.1 34) 1600 = true then (if inB ((uA st 40 (st.1 34) x1).1 34) 1600 = true then (if inB ((uA (uA st 40 (st.1 34) x1) 41 ((uA st 40 (st.1 34) x1).1 34) x2).1 34) 1600 = true then (if inB ((uA (uA (uA st 40 (st.1 34) x1) 41 ((uA st 40 (st.1 34) x1).1 34) x2) 42 ((uA (uA st 40 (st.1 34) x1) 41 ((uA st 40 (st.1 34) x1).1 34) x2).1 34) (-1 : Int32)).1 34) 1600 = true then (if inB ((uA (uA (uA (uA st 40 (st.1 34) x1) 41 ((uA st 40 (st.1 34) x1).1 34) x2) 42 ((uA (uA st 40 (st.1 34) x1) 41 ((uA st 40 (st.1 34) x1).1 34) x2).1 34) (-1 : Int32)) 43 ((uA (uA (uA st 40 (st.1 34) x1) 41 ((uA st 40 (st.1 34) x1).1 34) x2) 42 ((uA (uA st 40 (st.1 34) x1) 41 ((uA st 40 (st.1 34) x1).1 34) x2).1 34) (-1 : Int32)).1 34) (-1 : Int32)).1 34) 1600 = true then (some ((((uF (uA (uA (uA (uA (uA st 40 (st.1 34) x1) 41 ((uA st 40 (st.1 34) x1).1 34) x2) 42 ((uA (uA st 40 (st.1 34) x1) 41 ((uA st 40 (st.1 34) x1).1 34) x2).1 34) (-1 : Int32)) 43 ((uA (uA (uA st 40 (st.1 34) x1) 41 ((uA st 40 (st.1 34) x1).1 34) x2) 42 ((uA (uA st 40 (st.1 34) x1) 41 ((uA st 40 (st.1 34) x1).1 34) x2).1 34) (-1 : Int32)).1 34) (-1 : Int32)) 44 ((uA (uA (uA (uA st 40 (st.1 34) x1) 41 ((uA st 40 (st.1 34) x1).1 34) x2) 42 ((uA (uA st 40 (st.1 34) x1) 41 ((uA st 40 (st.1 34) x1).1 34) x2).1 34) (-1 : Int32)) 43 ((uA (uA (uA st 40 (st.1 34) x1) 41 ((uA st 40 (st.1 34) x1).1 34) x2) 42 ((uA (uA st 40 (st.1 34) x1) 41 ((uA st 40 (st.1 34) x1).1 34) x2).1 34) (-1 : Int32)).1 34) (-1 : Int32)).1 34) (-1 : Int32)) 34 (((uA (uA (uA (uA (uA st 40 (st.1 34) x1) 41 ((uA st 40 (st.1 34) x1).1 34) x2) 42 ((uA (uA st 40 (st.1 34) x1) 41 ((uA st 40 (st.1 34) x1).1 34) x2).1 34) (-1 : Int32)) 43 ((uA (uA (uA st 40 (st.1 34) x1) 41 ((uA st 40 (st.1 34) x1).1 34) x2) 42 ((uA (uA st 40 (st.1 34) x1) 41 ((uA st 40 (st.1 34) x1).1 34) x2).1 34) (-1 : Int32)).1 34) (-1 : Int32)) 44 ((uA (uA (uA (uA st 40 (st.1 34) x1) 41 ((uA st 40 (st.1 34) x1).1 34) x2) 42 ((uA (uA st 40 (st.1 34) x1) 41 ((uA st 40 (st.1 34) x1).1 34) x2).1 34) (-1 : Int32)) 43 ((uA (uA (uA st 40 (st.1 34) x1) 41 ((uA st 40 (st.1 34) x1).1 34) x2) 42 ((uA (uA st 40 (st.1 34) x1) 41 ((uA st 40 (st.1 34) x1).1 34) x2).1 34) (-1 : Int32)).1 34) (-1 : Int32)).1 34) (-1 : Int32)).1 34) + (1 : Int32))).1 34) - (1 : Int32)), (uF (uA (uA (uA (uA (uA st 40 (st.1 34) x1) 41 ((uA st 40 (st.1 34) x1).1 34) x2) 42 ((uA (uA st 40 (st.1 34) x1) 41 ((uA st 40 (st.1 34) x1).1 34) x2).1 34) (-1 : Int32)) 43 ((uA (uA (uA st 40 (st.1 34) x1) 41 ((uA st 40 (st.1 34) x1).1 34) x2) 42 ((uA (uA st 40 (st.1 34) x1) 41 ((uA st 40 (st.1 34) x1).1 34) x2).1 34) (-1 : Int32)).1 34) (-1 : Int32)) 44 ((uA (uA (uA (uA st 40 (st.1 34) x1) 41 ((uA st 40 (st.1 34) x1).1 34) x2) 42 ((uA (uA st 40 (st.1 34) x1) 41 ((uA st 40 (st.1 34) x1).1 34) x2).1 34) (-1 : Int32)) 43 ((uA (uA (uA st 40 (st.1 34) x1) 41 ((uA st 40 (st.1 34) x1).1 34) x2) 42 ((uA (uA st 40 (st.1 34) x1) 41 ((uA st 40 (st.1 34) x1).1 34) x2).1 34) (-1 : Int32)).1 34) (-1 : Int32)).1 34) (-1 : Int32)) 34 (((uA (uA (uA (uA (uA st 40 (st.1 34) x1) 41 ((uA st 40 (st.1 34) x1).1 34) x2) 42 ((uA (uA st 40 (st.1 34) x1) 41 ((uA st 40 (st.1 34) x1).1 34) x2).1 34) (-1 : Int32)) 43 ((uA (uA (uA st 40 (st.1 34) x1) 41 ((uA st 40 (st.1 34) x1).1 34) x2) 42 ((uA (uA st 40 (st.1 34) x1) 41 ((uA st 40 (st.1 34) x1).1 34) x2).1 34) (-1 : Int32)).1 34) (-1 : Int32)) 44 ((uA (uA (uA (uA st 40 (st.1 34) x1) 41 ((uA st 40 (st.1 34) x1).1 34) x2) 42 ((uA (uA st 40 (st.1 34) x1) 41 ((uA st 40 (st.1 34) x1).1 34) x2).1 34) (-1 : Int32)) 43 ((uA (uA (uA st 40 (st.1 34) x1) 41 ((uA st 40 (st.1 34) x1).1 34) x2) 42 ((uA (uA st 40 (st.1 34) x1) 41 ((uA st 40 (st.1 34) x1).1 34) x2).1 34) (-1 : Int32)).1 34) (-1 : Int32)).1 34) (-1 : Int32)).1 34) + (1 : Int32))))) else none) else none) else none) else none) else none
theorem wd1256 : Cond.fieldLink RX12 139 "WorldProverModel" "readKind" "[I" ∈ Gw := gT6 (List.mem_of_getElem? (i := 132) rfl) rfl
theorem wd1257 : Cond.fieldLink RX12 451 "WorldProverModel" "readCount" "I" ∈ Gw := gT6 (List.mem_of_getElem? (i := 137) rfl) rfl
theorem wd1258 : Cond.fieldLink RX12 142 "WorldProverModel" "readNumber" "[I" ∈ Gw := gT6 (List.mem_of_getElem? (i := 133) rfl) rfl
theorem wd1259 : Cond.fieldLink RX12 145 "WorldProverModel" "readA" "[I" ∈ Gw := gT6 (List.mem_of_getElem? (i := 134) rfl) rfl
theorem wd1260 : Cond.fieldLink RX12 148 "WorldProverModel" "readB" "[I" ∈ Gw := gT6 (List.mem_of_getElem? (i := 135) rfl) rfl
theorem wd1261 : Cond.fieldLink RX12 151 "WorldProverModel" "readC" "[I" ∈ Gw := gT6 (List.mem_of_getElem? (i := 136) rfl) rfl
section
variable {p : Program} {l : Launch} {e : Env} {R : Room} {s : State} {m : MethodId} {args : Array Value} {below : List Frame} {meth : Method} {c : Code} {H : Heap} {locs : List Loc} {Q : State → Prop}
variable {cc : ByteArray} {nL pc : Nat} {ls : Array Slot} {rest : List Value} {D : va_G} {A : Nat → Prop} {cw : Cond} {ad : Nat → Nat} {cy : Nat → ClassId} {ee : EE} {st : StT} {own : String}
theorem gmX12_139 (F : CallFix p m c cc nL s args (cw :: Gw) RX12) (K : va_K D vwCl (tyL cy) s) (Z : ZG D (wM ad cy st) A s H locs) (hd : decode cc pc = .ok (.getfield 139, 3)) (kk : W p l e R s m args below meth c H locs 0 0 Q (F0 m (pc + 3) ls (.ref (ad 41) :: rest))) : W p l e R s m args below meth c H locs 0 0 Q (F0 m pc ls (.ref (ad 0) :: rest)) :=
  va_get (D := D) (ci := 12) (C := RX12) (T := TX12) (N := 98) F.1 F.2.1 F.2.2.2.2 (fun w h => List.mem_cons_of_mem _ (inG_X12 w h)) F.2.2.2.1 K Z.1 0 rfl rfl 74 (by decide) (F.2.2.2.2 _ (List.mem_cons_of_mem _ wd1256)) (fun _ h => h) rfl hd kk
theorem gmX12_451 (F : CallFix p m c cc nL s args (cw :: Gw) RX12) (K : va_K D vwCl (tyL cy) s) (Z : ZG D (wM ad cy st) A s H locs) (hd : decode cc pc = .ok (.getfield 451, 3)) (kk : W p l e R s m args below meth c H locs 0 0 Q (F0 m (pc + 3) ls (.int (st.1 34) :: rest))) : W p l e R s m args below meth c H locs 0 0 Q (F0 m pc ls (.ref (ad 0) :: rest)) :=
  va_get (D := D) (ci := 12) (C := RX12) (T := TX12) (N := 98) F.1 F.2.1 F.2.2.2.2 (fun w h => List.mem_cons_of_mem _ (inG_X12 w h)) F.2.2.2.1 K Z.1 0 rfl rfl 79 (by decide) (F.2.2.2.2 _ (List.mem_cons_of_mem _ wd1257)) (fun _ h => h) rfl hd kk
theorem ms41 {i : Int32} {v : Int32} (F : CallFix p m c cc nL s args (cw :: Gw) own) (K : va_K D vwCl (tyL cy) s) (Z : ZG D (wM ad cy st) A s H locs) (hi : inB i 1600 = true) (hd : decode cc pc = .ok (.iastore, 1)) (kk : ∀ (H1 : Heap) (locs1 : List Loc), ZG D (wM ad cy (uA st 40 i v)) A s H1 locs1 → W p l e R s m args below meth c H1 locs1 0 0 Q (F0 m (pc + 1) ls rest)) : W p l e R s m args below meth c H locs 0 0 Q (F0 m pc ls (.int v :: .int i :: .ref (ad 41) :: rest)) :=
  va_iast F.1 F.2.1 K Z.1 Z.2.1 Z.2.2 41 1 rfl rfl (inB_vp hi) hd (fun H1 locs1 hP hD hS => kk H1 locs1 ⟨hP, hD, hS⟩)
theorem gmX12_142 (F : CallFix p m c cc nL s args (cw :: Gw) RX12) (K : va_K D vwCl (tyL cy) s) (Z : ZG D (wM ad cy st) A s H locs) (hd : decode cc pc = .ok (.getfield 142, 3)) (kk : W p l e R s m args below meth c H locs 0 0 Q (F0 m (pc + 3) ls (.ref (ad 42) :: rest))) : W p l e R s m args below meth c H locs 0 0 Q (F0 m pc ls (.ref (ad 0) :: rest)) :=
  va_get (D := D) (ci := 12) (C := RX12) (T := TX12) (N := 98) F.1 F.2.1 F.2.2.2.2 (fun w h => List.mem_cons_of_mem _ (inG_X12 w h)) F.2.2.2.1 K Z.1 0 rfl rfl 75 (by decide) (F.2.2.2.2 _ (List.mem_cons_of_mem _ wd1258)) (fun _ h => h) rfl hd kk
theorem ms42 {i : Int32} {v : Int32} (F : CallFix p m c cc nL s args (cw :: Gw) own) (K : va_K D vwCl (tyL cy) s) (Z : ZG D (wM ad cy st) A s H locs) (hi : inB i 1600 = true) (hd : decode cc pc = .ok (.iastore, 1)) (kk : ∀ (H1 : Heap) (locs1 : List Loc), ZG D (wM ad cy (uA st 41 i v)) A s H1 locs1 → W p l e R s m args below meth c H1 locs1 0 0 Q (F0 m (pc + 1) ls rest)) : W p l e R s m args below meth c H locs 0 0 Q (F0 m pc ls (.int v :: .int i :: .ref (ad 42) :: rest)) :=
  va_iast F.1 F.2.1 K Z.1 Z.2.1 Z.2.2 42 1 rfl rfl (inB_vp hi) hd (fun H1 locs1 hP hD hS => kk H1 locs1 ⟨hP, hD, hS⟩)
theorem gmX12_145 (F : CallFix p m c cc nL s args (cw :: Gw) RX12) (K : va_K D vwCl (tyL cy) s) (Z : ZG D (wM ad cy st) A s H locs) (hd : decode cc pc = .ok (.getfield 145, 3)) (kk : W p l e R s m args below meth c H locs 0 0 Q (F0 m (pc + 3) ls (.ref (ad 43) :: rest))) : W p l e R s m args below meth c H locs 0 0 Q (F0 m pc ls (.ref (ad 0) :: rest)) :=
  va_get (D := D) (ci := 12) (C := RX12) (T := TX12) (N := 98) F.1 F.2.1 F.2.2.2.2 (fun w h => List.mem_cons_of_mem _ (inG_X12 w h)) F.2.2.2.1 K Z.1 0 rfl rfl 76 (by decide) (F.2.2.2.2 _ (List.mem_cons_of_mem _ wd1259)) (fun _ h => h) rfl hd kk
theorem ms43 {i : Int32} {v : Int32} (F : CallFix p m c cc nL s args (cw :: Gw) own) (K : va_K D vwCl (tyL cy) s) (Z : ZG D (wM ad cy st) A s H locs) (hi : inB i 1600 = true) (hd : decode cc pc = .ok (.iastore, 1)) (kk : ∀ (H1 : Heap) (locs1 : List Loc), ZG D (wM ad cy (uA st 42 i v)) A s H1 locs1 → W p l e R s m args below meth c H1 locs1 0 0 Q (F0 m (pc + 1) ls rest)) : W p l e R s m args below meth c H locs 0 0 Q (F0 m pc ls (.int v :: .int i :: .ref (ad 43) :: rest)) :=
  va_iast F.1 F.2.1 K Z.1 Z.2.1 Z.2.2 43 1 rfl rfl (inB_vp hi) hd (fun H1 locs1 hP hD hS => kk H1 locs1 ⟨hP, hD, hS⟩)
theorem gmX12_148 (F : CallFix p m c cc nL s args (cw :: Gw) RX12) (K : va_K D vwCl (tyL cy) s) (Z : ZG D (wM ad cy st) A s H locs) (hd : decode cc pc = .ok (.getfield 148, 3)) (kk : W p l e R s m args below meth c H locs 0 0 Q (F0 m (pc + 3) ls (.ref (ad 44) :: rest))) : W p l e R s m args below meth c H locs 0 0 Q (F0 m pc ls (.ref (ad 0) :: rest)) :=
  va_get (D := D) (ci := 12) (C := RX12) (T := TX12) (N := 98) F.1 F.2.1 F.2.2.2.2 (fun w h => List.mem_cons_of_mem _ (inG_X12 w h)) F.2.2.2.1 K Z.1 0 rfl rfl 77 (by decide) (F.2.2.2.2 _ (List.mem_cons_of_mem _ wd1260)) (fun _ h => h) rfl hd kk
theorem ms44 {i : Int32} {v : Int32} (F : CallFix p m c cc nL s args (cw :: Gw) own) (K : va_K D vwCl (tyL cy) s) (Z : ZG D (wM ad cy st) A s H locs) (hi : inB i 1600 = true) (hd : decode cc pc = .ok (.iastore, 1)) (kk : ∀ (H1 : Heap) (locs1 : List Loc), ZG D (wM ad cy (uA st 43 i v)) A s H1 locs1 → W p l e R s m args below meth c H1 locs1 0 0 Q (F0 m (pc + 1) ls rest)) : W p l e R s m args below meth c H locs 0 0 Q (F0 m pc ls (.int v :: .int i :: .ref (ad 44) :: rest)) :=
  va_iast F.1 F.2.1 K Z.1 Z.2.1 Z.2.2 44 1 rfl rfl (inB_vp hi) hd (fun H1 locs1 hP hD hS => kk H1 locs1 ⟨hP, hD, hS⟩)
theorem gmX12_151 (F : CallFix p m c cc nL s args (cw :: Gw) RX12) (K : va_K D vwCl (tyL cy) s) (Z : ZG D (wM ad cy st) A s H locs) (hd : decode cc pc = .ok (.getfield 151, 3)) (kk : W p l e R s m args below meth c H locs 0 0 Q (F0 m (pc + 3) ls (.ref (ad 45) :: rest))) : W p l e R s m args below meth c H locs 0 0 Q (F0 m pc ls (.ref (ad 0) :: rest)) :=
  va_get (D := D) (ci := 12) (C := RX12) (T := TX12) (N := 98) F.1 F.2.1 F.2.2.2.2 (fun w h => List.mem_cons_of_mem _ (inG_X12 w h)) F.2.2.2.1 K Z.1 0 rfl rfl 78 (by decide) (F.2.2.2.2 _ (List.mem_cons_of_mem _ wd1261)) (fun _ h => h) rfl hd kk
theorem ms45 {i : Int32} {v : Int32} (F : CallFix p m c cc nL s args (cw :: Gw) own) (K : va_K D vwCl (tyL cy) s) (Z : ZG D (wM ad cy st) A s H locs) (hi : inB i 1600 = true) (hd : decode cc pc = .ok (.iastore, 1)) (kk : ∀ (H1 : Heap) (locs1 : List Loc), ZG D (wM ad cy (uA st 44 i v)) A s H1 locs1 → W p l e R s m args below meth c H1 locs1 0 0 Q (F0 m (pc + 1) ls rest)) : W p l e R s m args below meth c H locs 0 0 Q (F0 m pc ls (.int v :: .int i :: .ref (ad 45) :: rest)) :=
  va_iast F.1 F.2.1 K Z.1 Z.2.1 Z.2.2 45 1 rfl rfl (inB_vp hi) hd (fun H1 locs1 hP hD hS => kk H1 locs1 ⟨hP, hD, hS⟩)
theorem pmX12_451 {v : Int32} (F : CallFix p m c cc nL s args (cw :: Gw) RX12) (K : va_K D vwCl (tyL cy) s) (Z : ZG D (wM ad cy st) A s H locs) (hd : decode cc pc = .ok (.putfield 451, 3)) (kk : ∀ (H1 : Heap) (locs1 : List Loc), ZG D (wM ad cy (uF st 34 v)) A s H1 locs1 → W p l e R s m args below meth c H1 locs1 0 0 Q (F0 m (pc + 3) ls rest)) : W p l e R s m args below meth c H locs 0 0 Q (F0 m pc ls (.int v :: .ref (ad 0) :: rest)) :=
  va_put (D := D) (ci := 12) (v := .int v) (ty := .int) (C := RX12) (T := TX12) (N := 98) F.1 F.2.1 F.2.2.2.2 (fun w h => List.mem_cons_of_mem _ (inG_X12 w h)) tyX12 tyX12_ok nmX12 F.2.2.2.1 K Z.1 Z.2.1 Z.2.2 0 rfl rfl 79 (by decide) (F.2.2.2.2 _ (List.mem_cons_of_mem _ wd1257)) (fun _ h => h) rfl (by decide +kernel) rfl rfl (Nat.le_of_ble_eq_true rfl) hd (fun H1 locs1 hP hD hS => kk H1 locs1 ⟨hP, hD, hS⟩)
end
set_option maxRecDepth 100000 in
set_option maxHeartbeats 4000000 in
theorem c_X12_newTerm {l : Launch} {D : va_G} {ad : Nat → Nat} {cy : Nat → ClassId} {ee : EE} {n : Nat} {st : StT} {x1 : Int32} {x2 : Int32} {res : (Int32 × StT)} (hf : f_X12_newTerm n st x1 x2 = some res) : CT l yX12_newTerm cX12_newTerm 3 (some .int) 0 0 D cy ee (wM ad cy st) (wM ad cy res.2) [.ref (ad 0), .int x1, .int x2] (some (.int res.1)) := by
  refine CT.of (by decide +kernel) (Nat.le_of_ble_eq_true rfl) ?_
  intro p e s m args below meth c A F hr hk K E hA Z ls hl
  have hl : lv_has ls 3 [(0, .ref (ad 0)), (1, .int x1), (2, .int x2)] := hl
  have hx := F.1
  have hb := F.2.1
  unfold f_X12_newTerm at hf
  refine lv_aload_n hx hb dX12_newTerm_0 rfl (lv_at hl 0 rfl) ?_
  refine gmX12_139 F K Z dX12_newTerm_1 ?_
  refine lv_aload_n hx hb dX12_newTerm_4 rfl (lv_at hl 0 rfl) ?_
  refine gmX12_451 F K Z dX12_newTerm_5 ?_
  refine lv_iload_n hx hb dX12_newTerm_8 rfl (lv_at hl 1 rfl) ?_
  obtain ⟨i9, hf⟩ := if_some hf
  refine ms41 F K Z i9 dX12_newTerm_9 (fun H locs Z => ?_)
  refine lv_aload_n hx hb dX12_newTerm_10 rfl (lv_at hl 0 rfl) ?_
  refine gmX12_142 F K Z dX12_newTerm_11 ?_
  refine lv_aload_n hx hb dX12_newTerm_14 rfl (lv_at hl 0 rfl) ?_
  refine gmX12_451 F K Z dX12_newTerm_15 ?_
  refine lv_iload_n hx hb dX12_newTerm_18 rfl (lv_at hl 2 rfl) ?_
  obtain ⟨i19, hf⟩ := if_some hf
  refine ms42 F K Z i19 dX12_newTerm_19 (fun H locs Z => ?_)
  refine lv_aload_n hx hb dX12_newTerm_20 rfl (lv_at hl 0 rfl) ?_
  refine gmX12_145 F K Z dX12_newTerm_21 ?_
  refine lv_aload_n hx hb dX12_newTerm_24 rfl (lv_at hl 0 rfl) ?_
  refine gmX12_451 F K Z dX12_newTerm_25 ?_
  refine lv_iconst (v := -1) hx hb dX12_newTerm_28 (by decide) ?_
  obtain ⟨i29, hf⟩ := if_some hf
  refine ms43 F K Z i29 dX12_newTerm_29 (fun H locs Z => ?_)
  refine lv_aload_n hx hb dX12_newTerm_30 rfl (lv_at hl 0 rfl) ?_
  refine gmX12_148 F K Z dX12_newTerm_31 ?_
  refine lv_aload_n hx hb dX12_newTerm_34 rfl (lv_at hl 0 rfl) ?_
  refine gmX12_451 F K Z dX12_newTerm_35 ?_
  refine lv_iconst (v := -1) hx hb dX12_newTerm_38 (by decide) ?_
  obtain ⟨i39, hf⟩ := if_some hf
  refine ms44 F K Z i39 dX12_newTerm_39 (fun H locs Z => ?_)
  refine lv_aload_n hx hb dX12_newTerm_40 rfl (lv_at hl 0 rfl) ?_
  refine gmX12_151 F K Z dX12_newTerm_41 ?_
  refine lv_aload_n hx hb dX12_newTerm_44 rfl (lv_at hl 0 rfl) ?_
  refine gmX12_451 F K Z dX12_newTerm_45 ?_
  refine lv_iconst (v := -1) hx hb dX12_newTerm_48 (by decide) ?_
  obtain ⟨i49, hf⟩ := if_some hf
  refine ms45 F K Z i49 dX12_newTerm_49 (fun H locs Z => ?_)
  refine lv_aload_n hx hb dX12_newTerm_50 rfl (lv_at hl 0 rfl) ?_
  refine lv_dup hx hb dX12_newTerm_51 rfl ?_
  refine gmX12_451 F K Z dX12_newTerm_52 ?_
  refine lv_iconst (v := 1) hx hb dX12_newTerm_55 (by decide) ?_
  refine lv_iadd hx hb dX12_newTerm_56 ?_
  refine pmX12_451 F K Z dX12_newTerm_57 (fun H locs Z => ?_)
  refine lv_aload_n hx hb dX12_newTerm_60 rfl (lv_at hl 0 rfl) ?_
  refine gmX12_451 F K Z dX12_newTerm_61 ?_
  refine lv_iconst (v := 1) hx hb dX12_newTerm_64 (by decide) ?_
  refine lv_isub hx hb dX12_newTerm_65 ?_
  have hf := Option.some.inj hf
  subst hf
  exact ret_i F hr hk Z dX12_newTerm_66
def f_X12_beginTerm_137 (n : Nat) (st : StT) (x1 : Int32) (x2 : Int32) (x3 : Int32) (y0 : Int32) : Option (Int32 × StT) := if y0 = 0 then ((f_X12_fail n st (2 : Int32) (st.1 6)).bind fun q150 => (some ((-1 : Int32), q150.2))) else ((f_X12_nest n st).bind fun q158 => (if q158.1 = 0 then (some ((-1 : Int32), q158.2)) else ((f_X12_pass n q158.2).bind fun q167 => ((f_X12_newTerm n q167 x3 x2).bind fun q178 => (if inB x1 60 = true then (if inB x1 60 = true then (if inB x1 60 = true then ((f_X12_want n (uA (uA (uA q178.2 45 x1 q178.1) 46 x1 (0 : Int32)) 47 x1 x2) (40 : Int32)).bind fun q199 => (if q199.1 = 0 then (some ((-1 : Int32), q199.2)) else (if x3 = (76 : Int32) then ((f_X12_readFormula n q199.2).bind fun q214 => (if inB x1 60 = true then (if inB (q214.2.2.1 45 (x1).toNatClampNeg) 1600 = true then (if ((uA q214.2 44 (q214.2.2.1 45 (x1).toNatClampNeg) q214.1).1 10) = 0 then ((f_X12_want n (uA q214.2 44 (q214.2.2.1 45 (x1).toNatClampNeg) q214.1) (44 : Int32)).bind fun q242 => (if q242.1 = 0 then (some ((-1 : Int32), q242.2)) else (some ((-1 : Int32), q242.2)))) else (some ((-1 : Int32), (uA q214.2 44 (q214.2.2.1 45 (x1).toNatClampNeg) q214.1)))) else none) else none)) else (some ((-1 : Int32), q199.2))))) else none) else none) else none)))))
def f_X12_beginTerm (n : Nat) (st : StT) (x1 : Int32) (x2 : Int32) : Option (Int32 × StT) := (f_X12_look n st).bind fun q1 => (if (q1.2.1 10) = 0 then (if q1.1 = (84 : Int32) then ((f_X12_pass n q1.2).bind fun q21 => ((f_X12_newTerm n q21 (84 : Int32) x2).bind fun q28 => (some (q28.1, q28.2)))) else (if q1.1 = (257 : Int32) then ((f_X12_readHypothesis n q1.2 x2).bind fun q41 => (if 0 ≤ q41.1 then ((f_X12_newTerm n q41.2 (72 : Int32) x2).bind fun q57 => (if inB q57.1 1600 = true then ((f_X12_pass n (uA q57.2 42 q57.1 q41.1)).bind fun q72 => (some (q57.1, q72))) else none)) else (some ((-1 : Int32), q41.2)))) else (if q1.1 = (76 : Int32) then (f_X12_beginTerm_137 n q1.2 x1 x2 q1.1 (1 : Int32)) else (if q1.1 = (65 : Int32) then (f_X12_beginTerm_137 n q1.2 x1 x2 q1.1 (1 : Int32)) else (if q1.1 = (80 : Int32) then (f_X12_beginTerm_137 n q1.2 x1 x2 q1.1 (1 : Int32)) else (if q1.1 = (70 : Int32) then (f_X12_beginTerm_137 n q1.2 x1 x2 q1.1 (1 : Int32)) else (if q1.1 = (83 : Int32) then (f_X12_beginTerm_137 n q1.2 x1 x2 q1.1 (1 : Int32)) else (if q1.1 = (73 : Int32) then (f_X12_beginTerm_137 n q1.2 x1 x2 q1.1 (1 : Int32)) else (if q1.1 = (74 : Int32) then (f_X12_beginTerm_137 n q1.2 x1 x2 q1.1 (1 : Int32)) else (if q1.1 = (67 : Int32) then (f_X12_beginTerm_137 n q1.2 x1 x2 q1.1 (1 : Int32)) else (if q1.1 = (88 : Int32) then (f_X12_beginTerm_137 n q1.2 x1 x2 q1.1 (1 : Int32)) else (f_X12_beginTerm_137 n q1.2 x1 x2 q1.1 (0 : Int32))))))))))))) else (some ((-1 : Int32), q1.2)))
theorem wd1262 : Cond.fieldLink RX12 154 "WorldProverModel" "holdTerm" "[I" ∈ Gw := gT6 (List.mem_of_getElem? (i := 138) rfl) rfl
theorem wd1263 : Cond.fieldLink RX12 157 "WorldProverModel" "holdStage" "[I" ∈ Gw := gT6 (List.mem_of_getElem? (i := 139) rfl) rfl
theorem wd1264 : Cond.fieldLink RX12 160 "WorldProverModel" "holdAround" "[I" ∈ Gw := gT6 (List.mem_of_getElem? (i := 140) rfl) rfl
theorem wd1265 : Cond.methodLink RX12 454 yX12_newTerm ∈ Gw := gT8 (List.mem_of_getElem? (i := 181) rfl) rfl
theorem wd1266 : Cond.code yX12_newTerm prog_14_method_57_code 3 (some .int) ∈ Gw := gT8 (List.mem_of_getElem? (i := 184) rfl) rfl
theorem wd1267 : Cond.instanceMethod yX12_newTerm ∈ Gw := gT8 (List.mem_of_getElem? (i := 183) rfl) rfl
theorem wd1268 : Cond.selects RX12 yX12_newTerm yX12_newTerm ∈ Gw := gP8 (q := (yX12_newTerm, 98)) (List.mem_of_getElem? (i := 12) rfl)
theorem wd1269 : Cond.methodLink RX12 457 yX12_readHypothesis ∈ Gw := gT8 (List.mem_of_getElem? (i := 185) rfl) rfl
theorem wd1270 : Cond.code yX12_readHypothesis prog_14_method_56_code 5 (some .int) ∈ Gw := gT8 (List.mem_of_getElem? (i := 188) rfl) rfl
theorem wd1271 : Cond.instanceMethod yX12_readHypothesis ∈ Gw := gT8 (List.mem_of_getElem? (i := 187) rfl) rfl
theorem wd1272 : Cond.selects RX12 yX12_readHypothesis yX12_readHypothesis ∈ Gw := gP8 (q := (yX12_readHypothesis, 98)) (List.mem_of_getElem? (i := 13) rfl)
theorem wd1273 : Cond.methodLink RX12 460 yX12_readFormula ∈ Gw := gT7 (List.mem_of_getElem? (i := 219) rfl) rfl
theorem wd1274 : Cond.code yX12_readFormula prog_14_method_22_code 3 (some .int) ∈ Gw := gT7 (List.mem_of_getElem? (i := 222) rfl) rfl
theorem wd1275 : Cond.instanceMethod yX12_readFormula ∈ Gw := gT7 (List.mem_of_getElem? (i := 221) rfl) rfl
theorem wd1276 : Cond.selects RX12 yX12_readFormula yX12_readFormula ∈ Gw := gP6 (q := (yX12_readFormula, 98)) (List.mem_of_getElem? (i := 4) rfl)
section
variable {p : Program} {l : Launch} {e : Env} {R : Room} {s : State} {m : MethodId} {args : Array Value} {below : List Frame} {meth : Method} {c : Code} {H : Heap} {locs : List Loc} {Q : State → Prop}
variable {cc : ByteArray} {nL pc : Nat} {ls : Array Slot} {rest : List Value} {D : va_G} {A : Nat → Prop} {cw : Cond} {ad : Nat → Nat} {cy : Nat → ClassId} {ee : EE} {st : StT} {own : String}
theorem gmX12_154 (F : CallFix p m c cc nL s args (cw :: Gw) RX12) (K : va_K D vwCl (tyL cy) s) (Z : ZG D (wM ad cy st) A s H locs) (hd : decode cc pc = .ok (.getfield 154, 3)) (kk : W p l e R s m args below meth c H locs 0 0 Q (F0 m (pc + 3) ls (.ref (ad 46) :: rest))) : W p l e R s m args below meth c H locs 0 0 Q (F0 m pc ls (.ref (ad 0) :: rest)) :=
  va_get (D := D) (ci := 12) (C := RX12) (T := TX12) (N := 98) F.1 F.2.1 F.2.2.2.2 (fun w h => List.mem_cons_of_mem _ (inG_X12 w h)) F.2.2.2.1 K Z.1 0 rfl rfl 80 (by decide) (F.2.2.2.2 _ (List.mem_cons_of_mem _ wd1262)) (fun _ h => h) rfl hd kk
theorem ms46 {i : Int32} {v : Int32} (F : CallFix p m c cc nL s args (cw :: Gw) own) (K : va_K D vwCl (tyL cy) s) (Z : ZG D (wM ad cy st) A s H locs) (hi : inB i 60 = true) (hd : decode cc pc = .ok (.iastore, 1)) (kk : ∀ (H1 : Heap) (locs1 : List Loc), ZG D (wM ad cy (uA st 45 i v)) A s H1 locs1 → W p l e R s m args below meth c H1 locs1 0 0 Q (F0 m (pc + 1) ls rest)) : W p l e R s m args below meth c H locs 0 0 Q (F0 m pc ls (.int v :: .int i :: .ref (ad 46) :: rest)) :=
  va_iast F.1 F.2.1 K Z.1 Z.2.1 Z.2.2 46 1 rfl rfl (inB_vp hi) hd (fun H1 locs1 hP hD hS => kk H1 locs1 ⟨hP, hD, hS⟩)
theorem gmX12_157 (F : CallFix p m c cc nL s args (cw :: Gw) RX12) (K : va_K D vwCl (tyL cy) s) (Z : ZG D (wM ad cy st) A s H locs) (hd : decode cc pc = .ok (.getfield 157, 3)) (kk : W p l e R s m args below meth c H locs 0 0 Q (F0 m (pc + 3) ls (.ref (ad 47) :: rest))) : W p l e R s m args below meth c H locs 0 0 Q (F0 m pc ls (.ref (ad 0) :: rest)) :=
  va_get (D := D) (ci := 12) (C := RX12) (T := TX12) (N := 98) F.1 F.2.1 F.2.2.2.2 (fun w h => List.mem_cons_of_mem _ (inG_X12 w h)) F.2.2.2.1 K Z.1 0 rfl rfl 81 (by decide) (F.2.2.2.2 _ (List.mem_cons_of_mem _ wd1263)) (fun _ h => h) rfl hd kk
theorem ms47 {i : Int32} {v : Int32} (F : CallFix p m c cc nL s args (cw :: Gw) own) (K : va_K D vwCl (tyL cy) s) (Z : ZG D (wM ad cy st) A s H locs) (hi : inB i 60 = true) (hd : decode cc pc = .ok (.iastore, 1)) (kk : ∀ (H1 : Heap) (locs1 : List Loc), ZG D (wM ad cy (uA st 46 i v)) A s H1 locs1 → W p l e R s m args below meth c H1 locs1 0 0 Q (F0 m (pc + 1) ls rest)) : W p l e R s m args below meth c H locs 0 0 Q (F0 m pc ls (.int v :: .int i :: .ref (ad 47) :: rest)) :=
  va_iast F.1 F.2.1 K Z.1 Z.2.1 Z.2.2 47 1 rfl rfl (inB_vp hi) hd (fun H1 locs1 hP hD hS => kk H1 locs1 ⟨hP, hD, hS⟩)
theorem gmX12_160 (F : CallFix p m c cc nL s args (cw :: Gw) RX12) (K : va_K D vwCl (tyL cy) s) (Z : ZG D (wM ad cy st) A s H locs) (hd : decode cc pc = .ok (.getfield 160, 3)) (kk : W p l e R s m args below meth c H locs 0 0 Q (F0 m (pc + 3) ls (.ref (ad 48) :: rest))) : W p l e R s m args below meth c H locs 0 0 Q (F0 m pc ls (.ref (ad 0) :: rest)) :=
  va_get (D := D) (ci := 12) (C := RX12) (T := TX12) (N := 98) F.1 F.2.1 F.2.2.2.2 (fun w h => List.mem_cons_of_mem _ (inG_X12 w h)) F.2.2.2.1 K Z.1 0 rfl rfl 82 (by decide) (F.2.2.2.2 _ (List.mem_cons_of_mem _ wd1264)) (fun _ h => h) rfl hd kk
theorem ms48 {i : Int32} {v : Int32} (F : CallFix p m c cc nL s args (cw :: Gw) own) (K : va_K D vwCl (tyL cy) s) (Z : ZG D (wM ad cy st) A s H locs) (hi : inB i 60 = true) (hd : decode cc pc = .ok (.iastore, 1)) (kk : ∀ (H1 : Heap) (locs1 : List Loc), ZG D (wM ad cy (uA st 47 i v)) A s H1 locs1 → W p l e R s m args below meth c H1 locs1 0 0 Q (F0 m (pc + 1) ls rest)) : W p l e R s m args below meth c H locs 0 0 Q (F0 m pc ls (.int v :: .int i :: .ref (ad 48) :: rest)) :=
  va_iast F.1 F.2.1 K Z.1 Z.2.1 Z.2.2 48 1 rfl rfl (inB_vp hi) hd (fun H1 locs1 hP hD hS => kk H1 locs1 ⟨hP, hD, hS⟩)
theorem ml46 {i : Int32} (F : CallFix p m c cc nL s args (cw :: Gw) own) (K : va_K D vwCl (tyL cy) s) (Z : ZG D (wM ad cy st) A s H locs) (hi : inB i 60 = true) (hd : decode cc pc = .ok (.iaload, 1)) (kk : W p l e R s m args below meth c H locs 0 0 Q (F0 m (pc + 1) ls (.int (st.2.1 45 i.toNatClampNeg) :: rest))) : W p l e R s m args below meth c H locs 0 0 Q (F0 m pc ls (.int i :: .ref (ad 46) :: rest)) :=
  va_iald F.1 F.2.1 K Z.1 46 1 rfl rfl (inB_vp hi) hd kk
theorem krX12_454_X12_newTerm {n : Nat} {a0 : Int32} {a1 : Int32} {q : (Int32 × StT)} (F : CallFix p m c cc nL s args (cw :: Gw) RX12) (K : va_K D vwCl (tyL cy) s) (E : EV ee A s s.heap) (hA : ∀ q, s.heap.size ≤ q → A q) (Z : ZG D (wM ad cy st) A s H locs) (hf : f_X12_newTerm n st a0 a1 = some q) (hR : 1 ≤ R.frames ∧ 22 ≤ R.locals) (hl : ls.size = nL) (hst : (rest.map fun v => v.category).sum ≤ 8) (hd : decode cc pc = .ok (.invokevirtual 454, 3)) (kk : ∀ (H1 : Heap) (locs1 : List Loc), ZG D (wM ad cy q.2) A s H1 locs1 → W p l e R s m args below meth c H1 locs1 0 0 Q (F0 m (pc + 3) ls (.int q.1 :: rest))) : W p l e R s m args below meth c H locs 0 0 Q (F0 m pc ls (.int a1 :: .int a0 :: .ref (ad 0) :: rest)) :=
  call_V (q := (RX12, TX12, 98)) (n := 2) (As := [.int a0, .int a1]) (rv := some (.int q.1)) 0 12 F K E hA Z (c_X12_newTerm (l := l) (D := D) (ad := ad) (cy := cy) (ee := ee) hf) ⟨wd1266, wd1265, wd1267, wd1268, wd1008⟩ (by decide +kernel) rfl rfl hR rfl hl hst hd kk
theorem krX12_457_X12_readHypothesis {n : Nat} {a0 : Int32} {q : (Int32 × StT)} (F : CallFix p m c cc nL s args (cw :: Gw) RX12) (K : va_K D vwCl (tyL cy) s) (E : EV ee A s s.heap) (hA : ∀ q, s.heap.size ≤ q → A q) (Z : ZG D (wM ad cy st) A s H locs) (hf : f_X12_readHypothesis n st a0 = some q) (hR : 2 ≤ R.frames ∧ 46 ≤ R.locals) (hl : ls.size = nL) (hst : (rest.map fun v => v.category).sum ≤ 8) (hd : decode cc pc = .ok (.invokevirtual 457, 3)) (kk : ∀ (H1 : Heap) (locs1 : List Loc), ZG D (wM ad cy q.2) A s H1 locs1 → W p l e R s m args below meth c H1 locs1 0 0 Q (F0 m (pc + 3) ls (.int q.1 :: rest))) : W p l e R s m args below meth c H locs 0 0 Q (F0 m pc ls (.int a0 :: .ref (ad 0) :: rest)) :=
  call_V (q := (RX12, TX12, 98)) (n := 1) (As := [.int a0]) (rv := some (.int q.1)) 0 12 F K E hA Z (c_X12_readHypothesis (l := l) (D := D) (ad := ad) (cy := cy) (ee := ee) hf) ⟨wd1270, wd1269, wd1271, wd1272, wd1008⟩ (by decide +kernel) rfl rfl hR rfl hl hst hd kk
theorem krX12_460_X12_readFormula {n : Nat}  {q : (Int32 × StT)} (F : CallFix p m c cc nL s args (cw :: Gw) RX12) (K : va_K D vwCl (tyL cy) s) (E : EV ee A s s.heap) (hA : ∀ q, s.heap.size ≤ q → A q) (Z : ZG D (wM ad cy st) A s H locs) (hf : f_X12_readFormula n st = some q) (hR : 6 ≤ R.frames ∧ 137 ≤ R.locals) (hl : ls.size = nL) (hst : (rest.map fun v => v.category).sum ≤ 8) (hd : decode cc pc = .ok (.invokevirtual 460, 3)) (kk : ∀ (H1 : Heap) (locs1 : List Loc), ZG D (wM ad cy q.2) A s H1 locs1 → W p l e R s m args below meth c H1 locs1 0 0 Q (F0 m (pc + 3) ls (.int q.1 :: rest))) : W p l e R s m args below meth c H locs 0 0 Q (F0 m pc ls (.ref (ad 0) :: rest)) :=
  call_V (q := (RX12, TX12, 98)) (n := 0) (As := []) (rv := some (.int q.1)) 0 12 F K E hA Z (c_X12_readFormula (l := l) (D := D) (ad := ad) (cy := cy) (ee := ee) hf) ⟨wd1274, wd1273, wd1275, wd1276, wd1008⟩ (by decide +kernel) rfl rfl hR rfl hl hst hd kk
end
set_option maxRecDepth 100000 in
set_option maxHeartbeats 4000000 in
theorem b_X12_beginTerm_137 {p : Program} {l : Launch} {e : Env} {s : State} {m : MethodId} {args : Array Value} {below : List Frame} {meth : Method} {c : Code} {D : va_G} {A : Nat → Prop} {ad : Nat → Nat} {cy : Nat → ClassId} {ee : EE} {n : Nat} {res : (Int32 × StT)} (F : CallFix p m c cX12_beginTerm 7 s args (Cond.code yX12_beginTerm cX12_beginTerm 7 (some .int) :: Gw) yX12_beginTerm.cls) (hr : meth.sig.returnType = (some .int)) (hk : meth.locks = false) (K : va_K D vwCl (tyL cy) s) (E : EV ee A s s.heap) (hA : ∀ q, s.heap.size ≤ q → A q) : ∀ (st : StT) (x1 : Int32) (x2 : Int32) (x3 : Int32) (y0 : Int32), f_X12_beginTerm_137 n st x1 x2 x3 y0 = some res → ∀ (H : Heap) (locs : List Loc) (ls : Array Slot), ZG D (wM ad cy st) A s H locs → lv_has ls 7 [(0, .ref (ad 0)), (1, .int x1), (2, .int x2), (3, .int x3)] → W p l e { frames := 6, cells := 0, slots := 0, locals := 137 } s m args below meth c H locs 0 0 (MQ below (QC D (some (.int res.1)) (wM ad cy res.2) A) args s 0 0 A) (F0 m 137 ls [.int y0]) := by
  have hx := F.1
  have hb := F.2.1
  intro st x1 x2 x3 y0 hf H locs ls Z hl
  unfold f_X12_beginTerm_137 at hf
  refine lv_istore (lv' := [(4, .int y0), (0, .ref (ad 0)), (1, .int x1), (2, .int x2), (3, .int x3)]) hx hb dX12_beginTerm_137 hl (by decide) rfl (fun ls hl => ?_)
  refine lv_iload hx hb dX12_beginTerm_139 (lv_at hl 0 rfl) ?_
  refine lv_if_ne (tgt := 157) hx hb dX12_beginTerm_141 (by decide) (fun c141 => ?_) (fun c141 => ?_)
  · have hf := if_f c141 hf
    refine lv_aload_n hx hb dX12_beginTerm_157 rfl (lv_at hl 1 rfl) ?_
    obtain ⟨q158, h158, hf⟩ := bind_some hf
    refine krX12_286_X12_nest F K E hA Z h158 ⟨Nat.le_of_ble_eq_true rfl, Nat.le_of_ble_eq_true rfl⟩ hl.1 (Nat.le_of_ble_eq_true rfl) dX12_beginTerm_158 (fun H locs Z => ?_)
    refine lv_if_ne (tgt := 166) hx hb dX12_beginTerm_161 (by decide) (fun c161 => ?_) (fun c161 => ?_)
    · have hf := if_f c161 hf
      refine lv_aload_n hx hb dX12_beginTerm_166 rfl (lv_at hl 1 rfl) ?_
      obtain ⟨q167, h167, hf⟩ := bind_some hf
      refine krX12_274_X12_pass F K E hA Z h167 ⟨Nat.le_of_ble_eq_true rfl, Nat.le_of_ble_eq_true rfl⟩ hl.1 (Nat.le_of_ble_eq_true rfl) dX12_beginTerm_167 (fun H locs Z => ?_)
      refine lv_aload_n hx hb dX12_beginTerm_170 rfl (lv_at hl 1 rfl) ?_
      refine gmX12_154 F K Z dX12_beginTerm_171 ?_
      refine lv_iload_n hx hb dX12_beginTerm_174 rfl (lv_at hl 2 rfl) ?_
      refine lv_aload_n hx hb dX12_beginTerm_175 rfl (lv_at hl 1 rfl) ?_
      refine lv_iload_n hx hb dX12_beginTerm_176 rfl (lv_at hl 4 rfl) ?_
      refine lv_iload_n hx hb dX12_beginTerm_177 rfl (lv_at hl 3 rfl) ?_
      obtain ⟨q178, h178, hf⟩ := bind_some hf
      refine krX12_454_X12_newTerm F K E hA Z h178 ⟨Nat.le_of_ble_eq_true rfl, Nat.le_of_ble_eq_true rfl⟩ hl.1 (Nat.le_of_ble_eq_true rfl) dX12_beginTerm_178 (fun H locs Z => ?_)
      obtain ⟨i181, hf⟩ := if_some hf
      refine ms46 F K Z i181 dX12_beginTerm_181 (fun H locs Z => ?_)
      refine lv_aload_n hx hb dX12_beginTerm_182 rfl (lv_at hl 1 rfl) ?_
      refine gmX12_157 F K Z dX12_beginTerm_183 ?_
      refine lv_iload_n hx hb dX12_beginTerm_186 rfl (lv_at hl 2 rfl) ?_
      refine lv_iconst (v := 0) hx hb dX12_beginTerm_187 (by decide) ?_
      obtain ⟨i188, hf⟩ := if_some hf
      refine ms47 F K Z i188 dX12_beginTerm_188 (fun H locs Z => ?_)
      refine lv_aload_n hx hb dX12_beginTerm_189 rfl (lv_at hl 1 rfl) ?_
      refine gmX12_160 F K Z dX12_beginTerm_190 ?_
      refine lv_iload_n hx hb dX12_beginTerm_193 rfl (lv_at hl 2 rfl) ?_
      refine lv_iload_n hx hb dX12_beginTerm_194 rfl (lv_at hl 3 rfl) ?_
      obtain ⟨i195, hf⟩ := if_some hf
      refine ms48 F K Z i195 dX12_beginTerm_195 (fun H locs Z => ?_)
      refine lv_aload_n hx hb dX12_beginTerm_196 rfl (lv_at hl 1 rfl) ?_
      refine lv_bipush (v := 40) hx hb dX12_beginTerm_197 (by decide) ?_
      obtain ⟨q199, h199, hf⟩ := bind_some hf
      refine krX12_300_X12_want F K E hA Z h199 ⟨Nat.le_of_ble_eq_true rfl, Nat.le_of_ble_eq_true rfl⟩ hl.1 (Nat.le_of_ble_eq_true rfl) dX12_beginTerm_199 (fun H locs Z => ?_)
      refine lv_if_ne (tgt := 207) hx hb dX12_beginTerm_202 (by decide) (fun c202 => ?_) (fun c202 => ?_)
      · have hf := if_f c202 hf
        refine lv_iload_n hx hb dX12_beginTerm_207 rfl (lv_at hl 4 rfl) ?_
        refine lv_bipush (v := 76) hx hb dX12_beginTerm_208 (by decide) ?_
        refine lv_icmp_ne (tgt := 255) hx hb dX12_beginTerm_210 (by decide) (fun c210 => ?_) (fun c210 => ?_)
        · have hf := if_f c210 hf
          refine lv_iconst (v := -1) hx hb dX12_beginTerm_255 (by decide) ?_
          have hf := Option.some.inj hf
          subst hf
          exact ret_i F hr hk Z dX12_beginTerm_256
        have hf := if_t c210 hf
        refine lv_aload_n hx hb dX12_beginTerm_213 rfl (lv_at hl 1 rfl) ?_
        obtain ⟨q214, h214, hf⟩ := bind_some hf
        refine krX12_460_X12_readFormula F K E hA Z h214 ⟨Nat.le_of_ble_eq_true rfl, Nat.le_of_ble_eq_true rfl⟩ hl.1 (Nat.le_of_ble_eq_true rfl) dX12_beginTerm_214 (fun H locs Z => ?_)
        refine lv_istore (lv' := [(5, .int q214.1), (4, .int y0), (0, .ref (ad 0)), (1, .int x1), (2, .int x2), (3, .int x3)]) hx hb dX12_beginTerm_217 hl (by decide) rfl (fun ls hl => ?_)
        refine lv_aload_n hx hb dX12_beginTerm_219 rfl (lv_at hl 2 rfl) ?_
        refine gmX12_151 F K Z dX12_beginTerm_220 ?_
        refine lv_aload_n hx hb dX12_beginTerm_223 rfl (lv_at hl 2 rfl) ?_
        refine gmX12_154 F K Z dX12_beginTerm_224 ?_
        refine lv_iload_n hx hb dX12_beginTerm_227 rfl (lv_at hl 3 rfl) ?_
        obtain ⟨i228, hf⟩ := if_some hf
        refine ml46 F K Z i228 dX12_beginTerm_228 ?_
        refine lv_iload hx hb dX12_beginTerm_229 (lv_at hl 0 rfl) ?_
        obtain ⟨i231, hf⟩ := if_some hf
        refine ms45 F K Z i231 dX12_beginTerm_231 (fun H locs Z => ?_)
        refine lv_aload_n hx hb dX12_beginTerm_232 rfl (lv_at hl 2 rfl) ?_
        refine gmX12_257 F K Z dX12_beginTerm_233 ?_
        refine lv_if_ne (tgt := 252) hx hb dX12_beginTerm_236 (by decide) (fun c236 => ?_) (fun c236 => ?_)
        · have hf := if_f c236 hf
          refine lv_iconst (v := 0) hx hb dX12_beginTerm_252 (by decide) ?_
          refine lv_istore (lv' := [(6, .int (0 : Int32)), (5, .int q214.1), (4, .int y0), (0, .ref (ad 0)), (1, .int x1), (2, .int x2), (3, .int x3)]) hx hb dX12_beginTerm_253 hl (by decide) rfl (fun ls hl => ?_)
          refine lv_iconst (v := -1) hx hb dX12_beginTerm_255 (by decide) ?_
          have hf := Option.some.inj hf
          subst hf
          exact ret_i F hr hk Z dX12_beginTerm_256
        have hf := if_t c236 hf
        refine lv_aload_n hx hb dX12_beginTerm_239 rfl (lv_at hl 2 rfl) ?_
        refine lv_bipush (v := 44) hx hb dX12_beginTerm_240 (by decide) ?_
        obtain ⟨q242, h242, hf⟩ := bind_some hf
        refine krX12_300_X12_want F K E hA Z h242 ⟨Nat.le_of_ble_eq_true rfl, Nat.le_of_ble_eq_true rfl⟩ hl.1 (Nat.le_of_ble_eq_true rfl) dX12_beginTerm_242 (fun H locs Z => ?_)
        refine lv_if_eq (tgt := 252) hx hb dX12_beginTerm_245 (by decide) (fun c245 => ?_) (fun c245 => ?_)
        · have hf := if_t c245 hf
          refine lv_iconst (v := 0) hx hb dX12_beginTerm_252 (by decide) ?_
          refine lv_istore (lv' := [(6, .int (0 : Int32)), (5, .int q214.1), (4, .int y0), (0, .ref (ad 0)), (1, .int x1), (2, .int x2), (3, .int x3)]) hx hb dX12_beginTerm_253 hl (by decide) rfl (fun ls hl => ?_)
          refine lv_iconst (v := -1) hx hb dX12_beginTerm_255 (by decide) ?_
          have hf := Option.some.inj hf
          subst hf
          exact ret_i F hr hk Z dX12_beginTerm_256
        have hf := if_f c245 hf
        refine lv_iconst (v := 1) hx hb dX12_beginTerm_248 (by decide) ?_
        refine lv_goto (tgt := 253) hx hb dX12_beginTerm_249 (by decide) ?_
        refine lv_istore (lv' := [(6, .int (1 : Int32)), (5, .int q214.1), (4, .int y0), (0, .ref (ad 0)), (1, .int x1), (2, .int x2), (3, .int x3)]) hx hb dX12_beginTerm_253 hl (by decide) rfl (fun ls hl => ?_)
        refine lv_iconst (v := -1) hx hb dX12_beginTerm_255 (by decide) ?_
        have hf := Option.some.inj hf
        subst hf
        exact ret_i F hr hk Z dX12_beginTerm_256
      have hf := if_t c202 hf
      refine lv_iconst (v := -1) hx hb dX12_beginTerm_205 (by decide) ?_
      have hf := Option.some.inj hf
      subst hf
      exact ret_i F hr hk Z dX12_beginTerm_206
    have hf := if_t c161 hf
    refine lv_iconst (v := -1) hx hb dX12_beginTerm_164 (by decide) ?_
    have hf := Option.some.inj hf
    subst hf
    exact ret_i F hr hk Z dX12_beginTerm_165
  have hf := if_t c141 hf
  refine lv_aload_n hx hb dX12_beginTerm_144 rfl (lv_at hl 1 rfl) ?_
  refine lv_iconst (v := 2) hx hb dX12_beginTerm_145 (by decide) ?_
  refine lv_aload_n hx hb dX12_beginTerm_146 rfl (lv_at hl 1 rfl) ?_
  refine gmX12_227 F K Z dX12_beginTerm_147 ?_
  obtain ⟨q150, h150, hf⟩ := bind_some hf
  refine krX12_266_X12_fail F K E hA Z h150 ⟨Nat.le_of_ble_eq_true rfl, Nat.le_of_ble_eq_true rfl⟩ hl.1 (Nat.le_of_ble_eq_true rfl) dX12_beginTerm_150 (fun H locs Z => ?_)
  refine lv_istore (lv' := [(5, .int q150.1), (4, .int y0), (0, .ref (ad 0)), (1, .int x1), (2, .int x2), (3, .int x3)]) hx hb dX12_beginTerm_153 hl (by decide) rfl (fun ls hl => ?_)
  refine lv_iconst (v := -1) hx hb dX12_beginTerm_155 (by decide) ?_
  have hf := Option.some.inj hf
  subst hf
  exact ret_i F hr hk Z dX12_beginTerm_156
set_option maxRecDepth 100000 in
set_option maxHeartbeats 4000000 in
theorem c_X12_beginTerm {l : Launch} {D : va_G} {ad : Nat → Nat} {cy : Nat → ClassId} {ee : EE} {n : Nat} {st : StT} {x1 : Int32} {x2 : Int32} {res : (Int32 × StT)} (hf : f_X12_beginTerm n st x1 x2 = some res) : CT l yX12_beginTerm cX12_beginTerm 7 (some .int) 6 137 D cy ee (wM ad cy st) (wM ad cy res.2) [.ref (ad 0), .int x1, .int x2] (some (.int res.1)) := by
  refine CT.of (by decide +kernel) (Nat.le_of_ble_eq_true rfl) ?_
  intro p e s m args below meth c A F hr hk K E hA Z ls hl
  have hl : lv_has ls 7 [(0, .ref (ad 0)), (1, .int x1), (2, .int x2)] := hl
  have hx := F.1
  have hb := F.2.1
  unfold f_X12_beginTerm at hf
  refine lv_aload_n hx hb dX12_beginTerm_0 rfl (lv_at hl 0 rfl) ?_
  obtain ⟨q1, h1, hf⟩ := bind_some hf
  refine krX12_270_X12_look F K E hA Z h1 ⟨Nat.le_of_ble_eq_true rfl, Nat.le_of_ble_eq_true rfl⟩ hl.1 (Nat.le_of_ble_eq_true rfl) dX12_beginTerm_1 (fun H locs Z => ?_)
  refine lv_istore_n (lv' := [(3, .int q1.1), (0, .ref (ad 0)), (1, .int x1), (2, .int x2)]) hx hb dX12_beginTerm_4 rfl hl (by decide) rfl (fun ls hl => ?_)
  refine lv_aload_n hx hb dX12_beginTerm_5 rfl (lv_at hl 1 rfl) ?_
  refine gmX12_257 F K Z dX12_beginTerm_6 ?_
  refine lv_if_eq (tgt := 14) hx hb dX12_beginTerm_9 (by decide) (fun c9 => ?_) (fun c9 => ?_)
  · have hf := if_t c9 hf
    refine lv_iload_n hx hb dX12_beginTerm_14 rfl (lv_at hl 0 rfl) ?_
    refine lv_bipush (v := 84) hx hb dX12_beginTerm_15 (by decide) ?_
    refine lv_icmp_ne (tgt := 32) hx hb dX12_beginTerm_17 (by decide) (fun c17 => ?_) (fun c17 => ?_)
    · have hf := if_f c17 hf
      refine lv_iload_n hx hb dX12_beginTerm_32 rfl (lv_at hl 0 rfl) ?_
      refine lv_sipush (v := 257) hx hb dX12_beginTerm_33 (by decide) ?_
      refine lv_icmp_ne (tgt := 78) hx hb dX12_beginTerm_36 (by decide) (fun c36 => ?_) (fun c36 => ?_)
      · have hf := if_f c36 hf
        refine lv_iload_n hx hb dX12_beginTerm_78 rfl (lv_at hl 0 rfl) ?_
        refine lv_bipush (v := 76) hx hb dX12_beginTerm_79 (by decide) ?_
        refine lv_icmp_eq (tgt := 132) hx hb dX12_beginTerm_81 (by decide) (fun c81 => ?_) (fun c81 => ?_)
        · have hf := if_t c81 hf
          refine lv_iconst (v := 1) hx hb dX12_beginTerm_132 (by decide) ?_
          refine lv_goto (tgt := 137) hx hb dX12_beginTerm_133 (by decide) ?_
          exact b_X12_beginTerm_137 F hr hk K E hA _ _ _ _ _ hf _ _ _ Z (lv_sub hl [1, 2, 3, 0] rfl)
        have hf := if_f c81 hf
        refine lv_iload_n hx hb dX12_beginTerm_84 rfl (lv_at hl 0 rfl) ?_
        refine lv_bipush (v := 65) hx hb dX12_beginTerm_85 (by decide) ?_
        refine lv_icmp_eq (tgt := 132) hx hb dX12_beginTerm_87 (by decide) (fun c87 => ?_) (fun c87 => ?_)
        · have hf := if_t c87 hf
          refine lv_iconst (v := 1) hx hb dX12_beginTerm_132 (by decide) ?_
          refine lv_goto (tgt := 137) hx hb dX12_beginTerm_133 (by decide) ?_
          exact b_X12_beginTerm_137 F hr hk K E hA _ _ _ _ _ hf _ _ _ Z (lv_sub hl [1, 2, 3, 0] rfl)
        have hf := if_f c87 hf
        refine lv_iload_n hx hb dX12_beginTerm_90 rfl (lv_at hl 0 rfl) ?_
        refine lv_bipush (v := 80) hx hb dX12_beginTerm_91 (by decide) ?_
        refine lv_icmp_eq (tgt := 132) hx hb dX12_beginTerm_93 (by decide) (fun c93 => ?_) (fun c93 => ?_)
        · have hf := if_t c93 hf
          refine lv_iconst (v := 1) hx hb dX12_beginTerm_132 (by decide) ?_
          refine lv_goto (tgt := 137) hx hb dX12_beginTerm_133 (by decide) ?_
          exact b_X12_beginTerm_137 F hr hk K E hA _ _ _ _ _ hf _ _ _ Z (lv_sub hl [1, 2, 3, 0] rfl)
        have hf := if_f c93 hf
        refine lv_iload_n hx hb dX12_beginTerm_96 rfl (lv_at hl 0 rfl) ?_
        refine lv_bipush (v := 70) hx hb dX12_beginTerm_97 (by decide) ?_
        refine lv_icmp_eq (tgt := 132) hx hb dX12_beginTerm_99 (by decide) (fun c99 => ?_) (fun c99 => ?_)
        · have hf := if_t c99 hf
          refine lv_iconst (v := 1) hx hb dX12_beginTerm_132 (by decide) ?_
          refine lv_goto (tgt := 137) hx hb dX12_beginTerm_133 (by decide) ?_
          exact b_X12_beginTerm_137 F hr hk K E hA _ _ _ _ _ hf _ _ _ Z (lv_sub hl [1, 2, 3, 0] rfl)
        have hf := if_f c99 hf
        refine lv_iload_n hx hb dX12_beginTerm_102 rfl (lv_at hl 0 rfl) ?_
        refine lv_bipush (v := 83) hx hb dX12_beginTerm_103 (by decide) ?_
        refine lv_icmp_eq (tgt := 132) hx hb dX12_beginTerm_105 (by decide) (fun c105 => ?_) (fun c105 => ?_)
        · have hf := if_t c105 hf
          refine lv_iconst (v := 1) hx hb dX12_beginTerm_132 (by decide) ?_
          refine lv_goto (tgt := 137) hx hb dX12_beginTerm_133 (by decide) ?_
          exact b_X12_beginTerm_137 F hr hk K E hA _ _ _ _ _ hf _ _ _ Z (lv_sub hl [1, 2, 3, 0] rfl)
        have hf := if_f c105 hf
        refine lv_iload_n hx hb dX12_beginTerm_108 rfl (lv_at hl 0 rfl) ?_
        refine lv_bipush (v := 73) hx hb dX12_beginTerm_109 (by decide) ?_
        refine lv_icmp_eq (tgt := 132) hx hb dX12_beginTerm_111 (by decide) (fun c111 => ?_) (fun c111 => ?_)
        · have hf := if_t c111 hf
          refine lv_iconst (v := 1) hx hb dX12_beginTerm_132 (by decide) ?_
          refine lv_goto (tgt := 137) hx hb dX12_beginTerm_133 (by decide) ?_
          exact b_X12_beginTerm_137 F hr hk K E hA _ _ _ _ _ hf _ _ _ Z (lv_sub hl [1, 2, 3, 0] rfl)
        have hf := if_f c111 hf
        refine lv_iload_n hx hb dX12_beginTerm_114 rfl (lv_at hl 0 rfl) ?_
        refine lv_bipush (v := 74) hx hb dX12_beginTerm_115 (by decide) ?_
        refine lv_icmp_eq (tgt := 132) hx hb dX12_beginTerm_117 (by decide) (fun c117 => ?_) (fun c117 => ?_)
        · have hf := if_t c117 hf
          refine lv_iconst (v := 1) hx hb dX12_beginTerm_132 (by decide) ?_
          refine lv_goto (tgt := 137) hx hb dX12_beginTerm_133 (by decide) ?_
          exact b_X12_beginTerm_137 F hr hk K E hA _ _ _ _ _ hf _ _ _ Z (lv_sub hl [1, 2, 3, 0] rfl)
        have hf := if_f c117 hf
        refine lv_iload_n hx hb dX12_beginTerm_120 rfl (lv_at hl 0 rfl) ?_
        refine lv_bipush (v := 67) hx hb dX12_beginTerm_121 (by decide) ?_
        refine lv_icmp_eq (tgt := 132) hx hb dX12_beginTerm_123 (by decide) (fun c123 => ?_) (fun c123 => ?_)
        · have hf := if_t c123 hf
          refine lv_iconst (v := 1) hx hb dX12_beginTerm_132 (by decide) ?_
          refine lv_goto (tgt := 137) hx hb dX12_beginTerm_133 (by decide) ?_
          exact b_X12_beginTerm_137 F hr hk K E hA _ _ _ _ _ hf _ _ _ Z (lv_sub hl [1, 2, 3, 0] rfl)
        have hf := if_f c123 hf
        refine lv_iload_n hx hb dX12_beginTerm_126 rfl (lv_at hl 0 rfl) ?_
        refine lv_bipush (v := 88) hx hb dX12_beginTerm_127 (by decide) ?_
        refine lv_icmp_ne (tgt := 136) hx hb dX12_beginTerm_129 (by decide) (fun c129 => ?_) (fun c129 => ?_)
        · have hf := if_f c129 hf
          refine lv_iconst (v := 0) hx hb dX12_beginTerm_136 (by decide) ?_
          exact b_X12_beginTerm_137 F hr hk K E hA _ _ _ _ _ hf _ _ _ Z (lv_sub hl [1, 2, 3, 0] rfl)
        have hf := if_t c129 hf
        refine lv_iconst (v := 1) hx hb dX12_beginTerm_132 (by decide) ?_
        refine lv_goto (tgt := 137) hx hb dX12_beginTerm_133 (by decide) ?_
        exact b_X12_beginTerm_137 F hr hk K E hA _ _ _ _ _ hf _ _ _ Z (lv_sub hl [1, 2, 3, 0] rfl)
      have hf := if_t c36 hf
      refine lv_aload_n hx hb dX12_beginTerm_39 rfl (lv_at hl 1 rfl) ?_
      refine lv_iload_n hx hb dX12_beginTerm_40 rfl (lv_at hl 3 rfl) ?_
      obtain ⟨q41, h41, hf⟩ := bind_some hf
      refine krX12_457_X12_readHypothesis F K E hA Z h41 ⟨Nat.le_of_ble_eq_true rfl, Nat.le_of_ble_eq_true rfl⟩ hl.1 (Nat.le_of_ble_eq_true rfl) dX12_beginTerm_41 (fun H locs Z => ?_)
      refine lv_istore (lv' := [(4, .int q41.1), (3, .int q1.1), (0, .ref (ad 0)), (1, .int x1), (2, .int x2)]) hx hb dX12_beginTerm_44 hl (by decide) rfl (fun ls hl => ?_)
      refine lv_iload hx hb dX12_beginTerm_46 (lv_at hl 0 rfl) ?_
      refine lv_if_ge (tgt := 53) hx hb dX12_beginTerm_48 (by decide) (fun c48 => ?_) (fun c48 => ?_)
      · have hf := if_t c48 hf
        refine lv_aload_n hx hb dX12_beginTerm_53 rfl (lv_at hl 2 rfl) ?_
        refine lv_bipush (v := 72) hx hb dX12_beginTerm_54 (by decide) ?_
        refine lv_iload_n hx hb dX12_beginTerm_56 rfl (lv_at hl 4 rfl) ?_
        obtain ⟨q57, h57, hf⟩ := bind_some hf
        refine krX12_454_X12_newTerm F K E hA Z h57 ⟨Nat.le_of_ble_eq_true rfl, Nat.le_of_ble_eq_true rfl⟩ hl.1 (Nat.le_of_ble_eq_true rfl) dX12_beginTerm_57 (fun H locs Z => ?_)
        refine lv_istore (lv' := [(5, .int q57.1), (4, .int q41.1), (3, .int q1.1), (0, .ref (ad 0)), (1, .int x1), (2, .int x2)]) hx hb dX12_beginTerm_60 hl (by decide) rfl (fun ls hl => ?_)
        refine lv_aload_n hx hb dX12_beginTerm_62 rfl (lv_at hl 3 rfl) ?_
        refine gmX12_145 F K Z dX12_beginTerm_63 ?_
        refine lv_iload hx hb dX12_beginTerm_66 (lv_at hl 0 rfl) ?_
        refine lv_iload hx hb dX12_beginTerm_68 (lv_at hl 1 rfl) ?_
        obtain ⟨i70, hf⟩ := if_some hf
        refine ms43 F K Z i70 dX12_beginTerm_70 (fun H locs Z => ?_)
        refine lv_aload_n hx hb dX12_beginTerm_71 rfl (lv_at hl 3 rfl) ?_
        obtain ⟨q72, h72, hf⟩ := bind_some hf
        refine krX12_274_X12_pass F K E hA Z h72 ⟨Nat.le_of_ble_eq_true rfl, Nat.le_of_ble_eq_true rfl⟩ hl.1 (Nat.le_of_ble_eq_true rfl) dX12_beginTerm_72 (fun H locs Z => ?_)
        refine lv_iload hx hb dX12_beginTerm_75 (lv_at hl 0 rfl) ?_
        have hf := Option.some.inj hf
        subst hf
        exact ret_i F hr hk Z dX12_beginTerm_77
      have hf := if_f c48 hf
      refine lv_iconst (v := -1) hx hb dX12_beginTerm_51 (by decide) ?_
      have hf := Option.some.inj hf
      subst hf
      exact ret_i F hr hk Z dX12_beginTerm_52
    have hf := if_t c17 hf
    refine lv_aload_n hx hb dX12_beginTerm_20 rfl (lv_at hl 1 rfl) ?_
    obtain ⟨q21, h21, hf⟩ := bind_some hf
    refine krX12_274_X12_pass F K E hA Z h21 ⟨Nat.le_of_ble_eq_true rfl, Nat.le_of_ble_eq_true rfl⟩ hl.1 (Nat.le_of_ble_eq_true rfl) dX12_beginTerm_21 (fun H locs Z => ?_)
    refine lv_aload_n hx hb dX12_beginTerm_24 rfl (lv_at hl 1 rfl) ?_
    refine lv_bipush (v := 84) hx hb dX12_beginTerm_25 (by decide) ?_
    refine lv_iload_n hx hb dX12_beginTerm_27 rfl (lv_at hl 3 rfl) ?_
    obtain ⟨q28, h28, hf⟩ := bind_some hf
    refine krX12_454_X12_newTerm F K E hA Z h28 ⟨Nat.le_of_ble_eq_true rfl, Nat.le_of_ble_eq_true rfl⟩ hl.1 (Nat.le_of_ble_eq_true rfl) dX12_beginTerm_28 (fun H locs Z => ?_)
    have hf := Option.some.inj hf
    subst hf
    exact ret_i F hr hk Z dX12_beginTerm_31
  have hf := if_f c9 hf
  refine lv_iconst (v := -1) hx hb dX12_beginTerm_12 (by decide) ?_
  have hf := Option.some.inj hf
  subst hf
  exact ret_i F hr hk Z dX12_beginTerm_13
def f_X12_readTerm_268 (n : Nat) (k4 : StT → Int32 → Int32 → Option (Int32 × StT)) (st : StT) (x2 : Int32) (x3 : Int32) (x4 : Int32) (x5 : Int32) : Option (Int32 × StT) := if x5 = 0 then (k4 st x2 x3) else (if (st.1 10) = 0 then (some (x4, st)) else (some ((-1 : Int32), st)))
def f_X12_readTerm_200 (n : Nat) (k4 : StT → Int32 → Int32 → Option (Int32 × StT)) (k75 : StT → Int32 → Int32 → Int32 → Int32 → Option (Int32 × StT)) (st : StT) (x2 : Int32) (x3 : Int32) (x4 : Int32) (x6 : Int32) (x7 : Int32) (y0 : Int32) : Option (Int32 × StT) := if y0 = 0 then ((f_X12_want n st (44 : Int32)).bind fun q238 => (if inB (x2 - (1 : Int32)) 60 = true then (if x7 = (67 : Int32) then (k75 q238.2 x2 ((q238.2.2.1 47 ((x2 - (1 : Int32))).toNatClampNeg) + (1 : Int32)) x4 y0) else (k75 q238.2 x2 ((q238.2.2.1 47 ((x2 - (1 : Int32))).toNatClampNeg) + (0 : Int32)) x4 y0)) else none)) else ((f_X12_want n st (41 : Int32)).bind fun q210 => (k75 (uF q210.2 13 ((q210.2.1 13) - (1 : Int32))) (x2 + (-1 : Int32)) x3 x6 y0))
def f_X12_readTerm_166 (n : Nat) (k4 : StT → Int32 → Int32 → Option (Int32 × StT)) (k75 : StT → Int32 → Int32 → Int32 → Int32 → Option (Int32 × StT)) (st : StT) (x2 : Int32) (x3 : Int32) (x4 : Int32) (x6 : Int32) (x7 : Int32) : Option (Int32 × StT) := if inB (x2 - (1 : Int32)) 60 = true then (if inB (x2 - (1 : Int32)) 60 = true then (if inB (x2 - (1 : Int32)) 60 = true then ((f_X12_partsOf n (uA st 46 (x2 - (1 : Int32)) ((st.2.1 46 ((x2 - (1 : Int32))).toNatClampNeg) + (1 : Int32))) x7).bind fun q189 => (if ((uA st 46 (x2 - (1 : Int32)) ((st.2.1 46 ((x2 - (1 : Int32))).toNatClampNeg) + (1 : Int32))).2.1 46 ((x2 - (1 : Int32))).toNatClampNeg) = q189.1 then (f_X12_readTerm_200 n k4 k75 q189.2 x2 x3 x4 x6 x7 (1 : Int32)) else (f_X12_readTerm_200 n k4 k75 q189.2 x2 x3 x4 x6 x7 (0 : Int32)))) else none) else none) else none
def f_X12_readTerm_75 (n : Nat) (k4 : StT → Int32 → Int32 → Option (Int32 × StT)) : Nat → StT → Int32 → Int32 → Int32 → Int32 → Option (Int32 × StT)
  | 0, _, _, _, _, _ => none
  | k + 1, st, x2, x3, x4, x5 => if x5 = 0 then (f_X12_readTerm_268 n k4 st x2 x3 x4 x5) else (if x2 ≤ 0 then (f_X12_readTerm_268 n k4 st x2 x3 x4 x5) else (if (st.1 10) = 0 then (if inB (x2 - (1 : Int32)) 60 = true then (if inB (st.2.1 45 ((x2 - (1 : Int32))).toNatClampNeg) 1600 = true then (if inB (x2 - (1 : Int32)) 60 = true then (if (st.2.1 46 ((x2 - (1 : Int32))).toNatClampNeg) = 0 then (if inB (st.2.1 45 ((x2 - (1 : Int32))).toNatClampNeg) 1600 = true then (f_X12_readTerm_166 n k4 (f_X12_readTerm_75 n k4 k) (uA st 42 (st.2.1 45 ((x2 - (1 : Int32))).toNatClampNeg) x4) x2 x3 x4 (st.2.1 45 ((x2 - (1 : Int32))).toNatClampNeg) (st.2.1 40 ((st.2.1 45 ((x2 - (1 : Int32))).toNatClampNeg)).toNatClampNeg)) else none) else (if inB (x2 - (1 : Int32)) 60 = true then (if (st.2.1 46 ((x2 - (1 : Int32))).toNatClampNeg) = (1 : Int32) then (if inB (st.2.1 45 ((x2 - (1 : Int32))).toNatClampNeg) 1600 = true then (f_X12_readTerm_166 n k4 (f_X12_readTerm_75 n k4 k) (uA st 43 (st.2.1 45 ((x2 - (1 : Int32))).toNatClampNeg) x4) x2 x3 x4 (st.2.1 45 ((x2 - (1 : Int32))).toNatClampNeg) (st.2.1 40 ((st.2.1 45 ((x2 - (1 : Int32))).toNatClampNeg)).toNatClampNeg)) else none) else (if inB (st.2.1 45 ((x2 - (1 : Int32))).toNatClampNeg) 1600 = true then (f_X12_readTerm_166 n k4 (f_X12_readTerm_75 n k4 k) (uA st 44 (st.2.1 45 ((x2 - (1 : Int32))).toNatClampNeg) x4) x2 x3 x4 (st.2.1 45 ((x2 - (1 : Int32))).toNatClampNeg) (st.2.1 40 ((st.2.1 45 ((x2 - (1 : Int32))).toNatClampNeg)).toNatClampNeg)) else none)) else none)) else none) else none) else none) else (f_X12_readTerm_268 n k4 st x2 x3 x4 x5)))
def f_X12_readTerm_4 (n : Nat) : Nat → StT → Int32 → Int32 → Option (Int32 × StT)
  | 0, _, _, _ => none
  | k + 1, st, x2, x3 => if (st.1 10) = 0 then ((f_X12_beginTerm n st x2 x3).bind fun q14 => (if (q14.2.1 10) = 0 then (if 0 ≤ q14.1 then (f_X12_readTerm_75 n (f_X12_readTerm_4 n k) n q14.2 x2 x3 q14.1 (1 : Int32)) else (if inB x2 60 = true then (if inB (q14.2.2.1 45 (x2).toNatClampNeg) 1600 = true then (if inB x2 60 = true then (if (q14.2.2.1 40 ((q14.2.2.1 45 (x2).toNatClampNeg)).toNatClampNeg) = (76 : Int32) then (f_X12_readTerm_4 n k q14.2 (x2 + (1 : Int32)) ((q14.2.2.1 47 (x2).toNatClampNeg) + (1 : Int32))) else (f_X12_readTerm_4 n k q14.2 (x2 + (1 : Int32)) ((q14.2.2.1 47 (x2).toNatClampNeg) + (0 : Int32)))) else none) else none) else none)) else (some ((-1 : Int32), q14.2)))) else (some ((-1 : Int32), st))
def f_X12_readTerm (n : Nat) (st : StT) (x1 : Int32) : Option (Int32 × StT) := f_X12_readTerm_4 n n st (0 : Int32) x1
theorem wd1277 : Cond.methodLink RX12 463 yX12_beginTerm ∈ Gw := gT8 (List.mem_of_getElem? (i := 177) rfl) rfl
theorem wd1278 : Cond.code yX12_beginTerm prog_14_method_58_code 7 (some .int) ∈ Gw := gT8 (List.mem_of_getElem? (i := 180) rfl) rfl
theorem wd1279 : Cond.instanceMethod yX12_beginTerm ∈ Gw := gT8 (List.mem_of_getElem? (i := 179) rfl) rfl
theorem wd1280 : Cond.selects RX12 yX12_beginTerm yX12_beginTerm ∈ Gw := gP8 (q := (yX12_beginTerm, 98)) (List.mem_of_getElem? (i := 11) rfl)
theorem wd1281 : Cond.methodLink RX12 466 yX12_partsOf ∈ Gw := gT8 (List.mem_of_getElem? (i := 189) rfl) rfl
theorem wd1282 : Cond.code yX12_partsOf prog_14_method_55_code 2 (some .int) ∈ Gw := gT8 (List.mem_of_getElem? (i := 192) rfl) rfl
theorem wd1283 : Cond.instanceMethod yX12_partsOf ∈ Gw := gT8 (List.mem_of_getElem? (i := 191) rfl) rfl
theorem wd1284 : Cond.selects RX12 yX12_partsOf yX12_partsOf ∈ Gw := gP8 (q := (yX12_partsOf, 98)) (List.mem_of_getElem? (i := 14) rfl)
section
variable {p : Program} {l : Launch} {e : Env} {R : Room} {s : State} {m : MethodId} {args : Array Value} {below : List Frame} {meth : Method} {c : Code} {H : Heap} {locs : List Loc} {Q : State → Prop}
variable {cc : ByteArray} {nL pc : Nat} {ls : Array Slot} {rest : List Value} {D : va_G} {A : Nat → Prop} {cw : Cond} {ad : Nat → Nat} {cy : Nat → ClassId} {ee : EE} {st : StT} {own : String}
theorem ml41 {i : Int32} (F : CallFix p m c cc nL s args (cw :: Gw) own) (K : va_K D vwCl (tyL cy) s) (Z : ZG D (wM ad cy st) A s H locs) (hi : inB i 1600 = true) (hd : decode cc pc = .ok (.iaload, 1)) (kk : W p l e R s m args below meth c H locs 0 0 Q (F0 m (pc + 1) ls (.int (st.2.1 40 i.toNatClampNeg) :: rest))) : W p l e R s m args below meth c H locs 0 0 Q (F0 m pc ls (.int i :: .ref (ad 41) :: rest)) :=
  va_iald F.1 F.2.1 K Z.1 41 1 rfl rfl (inB_vp hi) hd kk
theorem ml48 {i : Int32} (F : CallFix p m c cc nL s args (cw :: Gw) own) (K : va_K D vwCl (tyL cy) s) (Z : ZG D (wM ad cy st) A s H locs) (hi : inB i 60 = true) (hd : decode cc pc = .ok (.iaload, 1)) (kk : W p l e R s m args below meth c H locs 0 0 Q (F0 m (pc + 1) ls (.int (st.2.1 47 i.toNatClampNeg) :: rest))) : W p l e R s m args below meth c H locs 0 0 Q (F0 m pc ls (.int i :: .ref (ad 48) :: rest)) :=
  va_iald F.1 F.2.1 K Z.1 48 1 rfl rfl (inB_vp hi) hd kk
theorem ml47 {i : Int32} (F : CallFix p m c cc nL s args (cw :: Gw) own) (K : va_K D vwCl (tyL cy) s) (Z : ZG D (wM ad cy st) A s H locs) (hi : inB i 60 = true) (hd : decode cc pc = .ok (.iaload, 1)) (kk : W p l e R s m args below meth c H locs 0 0 Q (F0 m (pc + 1) ls (.int (st.2.1 46 i.toNatClampNeg) :: rest))) : W p l e R s m args below meth c H locs 0 0 Q (F0 m pc ls (.int i :: .ref (ad 47) :: rest)) :=
  va_iald F.1 F.2.1 K Z.1 47 1 rfl rfl (inB_vp hi) hd kk
theorem krX12_463_X12_beginTerm {n : Nat} {a0 : Int32} {a1 : Int32} {q : (Int32 × StT)} (F : CallFix p m c cc nL s args (cw :: Gw) RX12) (K : va_K D vwCl (tyL cy) s) (E : EV ee A s s.heap) (hA : ∀ q, s.heap.size ≤ q → A q) (Z : ZG D (wM ad cy st) A s H locs) (hf : f_X12_beginTerm n st a0 a1 = some q) (hR : 7 ≤ R.frames ∧ 163 ≤ R.locals) (hl : ls.size = nL) (hst : (rest.map fun v => v.category).sum ≤ 8) (hd : decode cc pc = .ok (.invokevirtual 463, 3)) (kk : ∀ (H1 : Heap) (locs1 : List Loc), ZG D (wM ad cy q.2) A s H1 locs1 → W p l e R s m args below meth c H1 locs1 0 0 Q (F0 m (pc + 3) ls (.int q.1 :: rest))) : W p l e R s m args below meth c H locs 0 0 Q (F0 m pc ls (.int a1 :: .int a0 :: .ref (ad 0) :: rest)) :=
  call_V (q := (RX12, TX12, 98)) (n := 2) (As := [.int a0, .int a1]) (rv := some (.int q.1)) 0 12 F K E hA Z (c_X12_beginTerm (l := l) (D := D) (ad := ad) (cy := cy) (ee := ee) hf) ⟨wd1278, wd1277, wd1279, wd1280, wd1008⟩ (by decide +kernel) rfl rfl hR rfl hl hst hd kk
theorem krX12_466_X12_partsOf {n : Nat} {a0 : Int32} {q : (Int32 × StT)} (F : CallFix p m c cc nL s args (cw :: Gw) RX12) (K : va_K D vwCl (tyL cy) s) (E : EV ee A s s.heap) (hA : ∀ q, s.heap.size ≤ q → A q) (Z : ZG D (wM ad cy st) A s H locs) (hf : f_X12_partsOf n st a0 = some q) (hR : 1 ≤ R.frames ∧ 21 ≤ R.locals) (hl : ls.size = nL) (hst : (rest.map fun v => v.category).sum ≤ 8) (hd : decode cc pc = .ok (.invokevirtual 466, 3)) (kk : ∀ (H1 : Heap) (locs1 : List Loc), ZG D (wM ad cy q.2) A s H1 locs1 → W p l e R s m args below meth c H1 locs1 0 0 Q (F0 m (pc + 3) ls (.int q.1 :: rest))) : W p l e R s m args below meth c H locs 0 0 Q (F0 m pc ls (.int a0 :: .ref (ad 0) :: rest)) :=
  call_V (q := (RX12, TX12, 98)) (n := 1) (As := [.int a0]) (rv := some (.int q.1)) 0 12 F K E hA Z (c_X12_partsOf (l := l) (D := D) (ad := ad) (cy := cy) (ee := ee) hf) ⟨wd1282, wd1281, wd1283, wd1284, wd1008⟩ (by decide +kernel) rfl rfl hR rfl hl hst hd kk
end
set_option maxRecDepth 100000 in
set_option maxHeartbeats 4000000 in
theorem b_X12_readTerm_268 {p : Program} {l : Launch} {e : Env} {s : State} {m : MethodId} {args : Array Value} {below : List Frame} {meth : Method} {c : Code} {D : va_G} {A : Nat → Prop} {ad : Nat → Nat} {cy : Nat → ClassId} {ee : EE} {n : Nat} {res : (Int32 × StT)} (F : CallFix p m c cX12_readTerm 9 s args (Cond.code yX12_readTerm cX12_readTerm 9 (some .int) :: Gw) yX12_readTerm.cls) (hr : meth.sig.returnType = (some .int)) (hk : meth.locks = false) (K : va_K D vwCl (tyL cy) s) (E : EV ee A s s.heap) (hA : ∀ q, s.heap.size ≤ q → A q) {k4 : StT → Int32 → Int32 → Option (Int32 × StT)} (hk4 : ∀ (st : StT) (x2 : Int32) (x3 : Int32), k4 st x2 x3 = some res → ∀ (H : Heap) (locs : List Loc) (ls : Array Slot), ZG D (wM ad cy st) A s H locs → lv_has ls 9 [(0, .ref (ad 0)), (2, .int x2), (3, .int x3)] → W p l e { frames := 7, cells := 0, slots := 0, locals := 163 } s m args below meth c H locs 0 0 (MQ below (QC D (some (.int res.1)) (wM ad cy res.2) A) args s 0 0 A) (F0 m 4 ls [])) : ∀ (st : StT) (x2 : Int32) (x3 : Int32) (x4 : Int32) (x5 : Int32), f_X12_readTerm_268 n k4 st x2 x3 x4 x5 = some res → ∀ (H : Heap) (locs : List Loc) (ls : Array Slot), ZG D (wM ad cy st) A s H locs → lv_has ls 9 [(0, .ref (ad 0)), (2, .int x2), (3, .int x3), (4, .int x4), (5, .int x5)] → W p l e { frames := 7, cells := 0, slots := 0, locals := 163 } s m args below meth c H locs 0 0 (MQ below (QC D (some (.int res.1)) (wM ad cy res.2) A) args s 0 0 A) (F0 m 268 ls []) := by
  have hx := F.1
  have hb := F.2.1
  intro st x2 x3 x4 x5 hf H locs ls Z hl
  unfold f_X12_readTerm_268 at hf
  refine lv_iload hx hb dX12_readTerm_268 (lv_at hl 4 rfl) ?_
  refine lv_if_eq (tgt := 287) hx hb dX12_readTerm_270 (by decide) (fun c270 => ?_) (fun c270 => ?_)
  · have hf := if_t c270 hf
    refine lv_goto (tgt := 4) hx hb dX12_readTerm_287 (by decide) ?_
    exact hk4 _ _ _ hf _ _ _ Z (lv_sub hl [0, 1, 2] rfl)
  have hf := if_f c270 hf
  refine lv_aload_n hx hb dX12_readTerm_273 rfl (lv_at hl 0 rfl) ?_
  refine gmX12_257 F K Z dX12_readTerm_274 ?_
  refine lv_if_ne (tgt := 285) hx hb dX12_readTerm_277 (by decide) (fun c277 => ?_) (fun c277 => ?_)
  · have hf := if_f c277 hf
    refine lv_iconst (v := -1) hx hb dX12_readTerm_285 (by decide) ?_
    have hf := Option.some.inj hf
    subst hf
    exact ret_i F hr hk Z dX12_readTerm_286
  have hf := if_t c277 hf
  refine lv_iload hx hb dX12_readTerm_280 (lv_at hl 3 rfl) ?_
  refine lv_goto (tgt := 286) hx hb dX12_readTerm_282 (by decide) ?_
  have hf := Option.some.inj hf
  subst hf
  exact ret_i F hr hk Z dX12_readTerm_286
set_option maxRecDepth 100000 in
set_option maxHeartbeats 4000000 in
theorem b_X12_readTerm_200 {p : Program} {l : Launch} {e : Env} {s : State} {m : MethodId} {args : Array Value} {below : List Frame} {meth : Method} {c : Code} {D : va_G} {A : Nat → Prop} {ad : Nat → Nat} {cy : Nat → ClassId} {ee : EE} {n : Nat} {res : (Int32 × StT)} (F : CallFix p m c cX12_readTerm 9 s args (Cond.code yX12_readTerm cX12_readTerm 9 (some .int) :: Gw) yX12_readTerm.cls) (hr : meth.sig.returnType = (some .int)) (hk : meth.locks = false) (K : va_K D vwCl (tyL cy) s) (E : EV ee A s s.heap) (hA : ∀ q, s.heap.size ≤ q → A q) {k4 : StT → Int32 → Int32 → Option (Int32 × StT)} (hk4 : ∀ (st : StT) (x2 : Int32) (x3 : Int32), k4 st x2 x3 = some res → ∀ (H : Heap) (locs : List Loc) (ls : Array Slot), ZG D (wM ad cy st) A s H locs → lv_has ls 9 [(0, .ref (ad 0)), (2, .int x2), (3, .int x3)] → W p l e { frames := 7, cells := 0, slots := 0, locals := 163 } s m args below meth c H locs 0 0 (MQ below (QC D (some (.int res.1)) (wM ad cy res.2) A) args s 0 0 A) (F0 m 4 ls [])) {k75 : StT → Int32 → Int32 → Int32 → Int32 → Option (Int32 × StT)} (hk75 : ∀ (st : StT) (x2 : Int32) (x3 : Int32) (x4 : Int32) (x5 : Int32), k75 st x2 x3 x4 x5 = some res → ∀ (H : Heap) (locs : List Loc) (ls : Array Slot), ZG D (wM ad cy st) A s H locs → lv_has ls 9 [(0, .ref (ad 0)), (2, .int x2), (3, .int x3), (4, .int x4), (5, .int x5)] → W p l e { frames := 7, cells := 0, slots := 0, locals := 163 } s m args below meth c H locs 0 0 (MQ below (QC D (some (.int res.1)) (wM ad cy res.2) A) args s 0 0 A) (F0 m 75 ls [])) : ∀ (st : StT) (x2 : Int32) (x3 : Int32) (x4 : Int32) (x6 : Int32) (x7 : Int32) (y0 : Int32), f_X12_readTerm_200 n k4 k75 st x2 x3 x4 x6 x7 y0 = some res → ∀ (H : Heap) (locs : List Loc) (ls : Array Slot), ZG D (wM ad cy st) A s H locs → lv_has ls 9 [(0, .ref (ad 0)), (2, .int x2), (3, .int x3), (4, .int x4), (6, .int x6), (7, .int x7)] → W p l e { frames := 7, cells := 0, slots := 0, locals := 163 } s m args below meth c H locs 0 0 (MQ below (QC D (some (.int res.1)) (wM ad cy res.2) A) args s 0 0 A) (F0 m 200 ls [.int y0]) := by
  have hx := F.1
  have hb := F.2.1
  intro st x2 x3 x4 x6 x7 y0 hf H locs ls Z hl
  unfold f_X12_readTerm_200 at hf
  refine lv_istore (lv' := [(5, .int y0), (0, .ref (ad 0)), (2, .int x2), (3, .int x3), (4, .int x4), (6, .int x6), (7, .int x7)]) hx hb dX12_readTerm_200 hl (by decide) rfl (fun ls hl => ?_)
  refine lv_iload hx hb dX12_readTerm_202 (lv_at hl 0 rfl) ?_
  refine lv_if_eq (tgt := 235) hx hb dX12_readTerm_204 (by decide) (fun c204 => ?_) (fun c204 => ?_)
  · have hf := if_t c204 hf
    refine lv_aload_n hx hb dX12_readTerm_235 rfl (lv_at hl 1 rfl) ?_
    refine lv_bipush (v := 44) hx hb dX12_readTerm_236 (by decide) ?_
    obtain ⟨q238, h238, hf⟩ := bind_some hf
    refine krX12_300_X12_want F K E hA Z h238 ⟨Nat.le_of_ble_eq_true rfl, Nat.le_of_ble_eq_true rfl⟩ hl.1 (Nat.le_of_ble_eq_true rfl) dX12_readTerm_238 (fun H locs Z => ?_)
    refine lv_istore (lv' := [(8, .int q238.1), (5, .int y0), (0, .ref (ad 0)), (2, .int x2), (3, .int x3), (4, .int x4), (6, .int x6), (7, .int x7)]) hx hb dX12_readTerm_241 hl (by decide) rfl (fun ls hl => ?_)
    refine lv_aload_n hx hb dX12_readTerm_243 rfl (lv_at hl 2 rfl) ?_
    refine gmX12_160 F K Z dX12_readTerm_244 ?_
    refine lv_iload_n hx hb dX12_readTerm_247 rfl (lv_at hl 3 rfl) ?_
    refine lv_iconst (v := 1) hx hb dX12_readTerm_248 (by decide) ?_
    refine lv_isub hx hb dX12_readTerm_249 ?_
    obtain ⟨i250, hf⟩ := if_some hf
    refine ml48 F K Z i250 dX12_readTerm_250 ?_
    refine lv_iload hx hb dX12_readTerm_251 (lv_at hl 7 rfl) ?_
    refine lv_bipush (v := 67) hx hb dX12_readTerm_253 (by decide) ?_
    refine lv_icmp_ne (tgt := 262) hx hb dX12_readTerm_255 (by decide) (fun c255 => ?_) (fun c255 => ?_)
    · have hf := if_f c255 hf
      refine lv_iconst (v := 0) hx hb dX12_readTerm_262 (by decide) ?_
      refine lv_iadd hx hb dX12_readTerm_263 ?_
      refine lv_istore_n (lv' := [(3, .int ((q238.2.2.1 47 ((x2 - (1 : Int32))).toNatClampNeg) + (0 : Int32))), (8, .int q238.1), (5, .int y0), (0, .ref (ad 0)), (2, .int x2), (4, .int x4), (6, .int x6), (7, .int x7)]) hx hb dX12_readTerm_264 rfl hl (by decide) rfl (fun ls hl => ?_)
      refine lv_goto (tgt := 75) hx hb dX12_readTerm_265 (by decide) ?_
      exact hk75 _ _ _ _ _ hf _ _ _ Z (lv_sub hl [3, 4, 0, 5, 2] rfl)
    have hf := if_t c255 hf
    refine lv_iconst (v := 1) hx hb dX12_readTerm_258 (by decide) ?_
    refine lv_goto (tgt := 263) hx hb dX12_readTerm_259 (by decide) ?_
    refine lv_iadd hx hb dX12_readTerm_263 ?_
    refine lv_istore_n (lv' := [(3, .int ((q238.2.2.1 47 ((x2 - (1 : Int32))).toNatClampNeg) + (1 : Int32))), (8, .int q238.1), (5, .int y0), (0, .ref (ad 0)), (2, .int x2), (4, .int x4), (6, .int x6), (7, .int x7)]) hx hb dX12_readTerm_264 rfl hl (by decide) rfl (fun ls hl => ?_)
    refine lv_goto (tgt := 75) hx hb dX12_readTerm_265 (by decide) ?_
    exact hk75 _ _ _ _ _ hf _ _ _ Z (lv_sub hl [3, 4, 0, 5, 2] rfl)
  have hf := if_f c204 hf
  refine lv_aload_n hx hb dX12_readTerm_207 rfl (lv_at hl 1 rfl) ?_
  refine lv_bipush (v := 41) hx hb dX12_readTerm_208 (by decide) ?_
  obtain ⟨q210, h210, hf⟩ := bind_some hf
  refine krX12_300_X12_want F K E hA Z h210 ⟨Nat.le_of_ble_eq_true rfl, Nat.le_of_ble_eq_true rfl⟩ hl.1 (Nat.le_of_ble_eq_true rfl) dX12_readTerm_210 (fun H locs Z => ?_)
  refine lv_istore (lv' := [(8, .int q210.1), (5, .int y0), (0, .ref (ad 0)), (2, .int x2), (3, .int x3), (4, .int x4), (6, .int x6), (7, .int x7)]) hx hb dX12_readTerm_213 hl (by decide) rfl (fun ls hl => ?_)
  refine lv_aload_n hx hb dX12_readTerm_215 rfl (lv_at hl 2 rfl) ?_
  refine lv_dup hx hb dX12_readTerm_216 rfl ?_
  refine gmX12_277 F K Z dX12_readTerm_217 ?_
  refine lv_iconst (v := 1) hx hb dX12_readTerm_220 (by decide) ?_
  refine lv_isub hx hb dX12_readTerm_221 ?_
  refine pmX12_277 F K Z dX12_readTerm_222 (fun H locs Z => ?_)
  refine lv_iload hx hb dX12_readTerm_225 (lv_at hl 6 rfl) ?_
  refine lv_istore (lv' := [(4, .int x6), (8, .int q210.1), (5, .int y0), (0, .ref (ad 0)), (2, .int x2), (3, .int x3), (6, .int x6), (7, .int x7)]) hx hb dX12_readTerm_227 hl (by decide) rfl (fun ls hl => ?_)
  refine lv_iinc (v := (x2 + (-1 : Int32))) (lv' := [(2, .int (x2 + (-1 : Int32))), (4, .int x6), (8, .int q210.1), (5, .int y0), (0, .ref (ad 0)), (3, .int x3), (6, .int x6), (7, .int x7)]) hx hb dX12_readTerm_229 hl (k := 4) rfl (congrArg (fun z => x2 + z) (by decide)) (by decide) rfl (fun ls hl => ?_)
  refine lv_goto (tgt := 265) hx hb dX12_readTerm_232 (by decide) ?_
  refine lv_goto (tgt := 75) hx hb dX12_readTerm_265 (by decide) ?_
  exact hk75 _ _ _ _ _ hf _ _ _ Z (lv_sub hl [4, 0, 5, 1, 3] rfl)
set_option maxRecDepth 100000 in
set_option maxHeartbeats 4000000 in
theorem b_X12_readTerm_166 {p : Program} {l : Launch} {e : Env} {s : State} {m : MethodId} {args : Array Value} {below : List Frame} {meth : Method} {c : Code} {D : va_G} {A : Nat → Prop} {ad : Nat → Nat} {cy : Nat → ClassId} {ee : EE} {n : Nat} {res : (Int32 × StT)} (F : CallFix p m c cX12_readTerm 9 s args (Cond.code yX12_readTerm cX12_readTerm 9 (some .int) :: Gw) yX12_readTerm.cls) (hr : meth.sig.returnType = (some .int)) (hk : meth.locks = false) (K : va_K D vwCl (tyL cy) s) (E : EV ee A s s.heap) (hA : ∀ q, s.heap.size ≤ q → A q) {k4 : StT → Int32 → Int32 → Option (Int32 × StT)} (hk4 : ∀ (st : StT) (x2 : Int32) (x3 : Int32), k4 st x2 x3 = some res → ∀ (H : Heap) (locs : List Loc) (ls : Array Slot), ZG D (wM ad cy st) A s H locs → lv_has ls 9 [(0, .ref (ad 0)), (2, .int x2), (3, .int x3)] → W p l e { frames := 7, cells := 0, slots := 0, locals := 163 } s m args below meth c H locs 0 0 (MQ below (QC D (some (.int res.1)) (wM ad cy res.2) A) args s 0 0 A) (F0 m 4 ls [])) {k75 : StT → Int32 → Int32 → Int32 → Int32 → Option (Int32 × StT)} (hk75 : ∀ (st : StT) (x2 : Int32) (x3 : Int32) (x4 : Int32) (x5 : Int32), k75 st x2 x3 x4 x5 = some res → ∀ (H : Heap) (locs : List Loc) (ls : Array Slot), ZG D (wM ad cy st) A s H locs → lv_has ls 9 [(0, .ref (ad 0)), (2, .int x2), (3, .int x3), (4, .int x4), (5, .int x5)] → W p l e { frames := 7, cells := 0, slots := 0, locals := 163 } s m args below meth c H locs 0 0 (MQ below (QC D (some (.int res.1)) (wM ad cy res.2) A) args s 0 0 A) (F0 m 75 ls [])) : ∀ (st : StT) (x2 : Int32) (x3 : Int32) (x4 : Int32) (x6 : Int32) (x7 : Int32), f_X12_readTerm_166 n k4 k75 st x2 x3 x4 x6 x7 = some res → ∀ (H : Heap) (locs : List Loc) (ls : Array Slot), ZG D (wM ad cy st) A s H locs → lv_has ls 9 [(0, .ref (ad 0)), (2, .int x2), (3, .int x3), (4, .int x4), (6, .int x6), (7, .int x7)] → W p l e { frames := 7, cells := 0, slots := 0, locals := 163 } s m args below meth c H locs 0 0 (MQ below (QC D (some (.int res.1)) (wM ad cy res.2) A) args s 0 0 A) (F0 m 166 ls []) := by
  have hx := F.1
  have hb := F.2.1
  intro st x2 x3 x4 x6 x7 hf H locs ls Z hl
  unfold f_X12_readTerm_166 at hf
  refine lv_aload_n hx hb dX12_readTerm_166 rfl (lv_at hl 0 rfl) ?_
  refine gmX12_157 F K Z dX12_readTerm_167 ?_
  refine lv_iload_n hx hb dX12_readTerm_170 rfl (lv_at hl 1 rfl) ?_
  refine lv_iconst (v := 1) hx hb dX12_readTerm_171 (by decide) ?_
  refine lv_isub hx hb dX12_readTerm_172 ?_
  refine lv_dup2_11 hx hb dX12_readTerm_173 rfl rfl ?_
  obtain ⟨i174, hf⟩ := if_some hf
  refine ml47 F K Z i174 dX12_readTerm_174 ?_
  refine lv_iconst (v := 1) hx hb dX12_readTerm_175 (by decide) ?_
  refine lv_iadd hx hb dX12_readTerm_176 ?_
  obtain ⟨i177, hf⟩ := if_some hf
  refine ms47 F K Z i177 dX12_readTerm_177 (fun H locs Z => ?_)
  refine lv_aload_n hx hb dX12_readTerm_178 rfl (lv_at hl 0 rfl) ?_
  refine gmX12_157 F K Z dX12_readTerm_179 ?_
  refine lv_iload_n hx hb dX12_readTerm_182 rfl (lv_at hl 1 rfl) ?_
  refine lv_iconst (v := 1) hx hb dX12_readTerm_183 (by decide) ?_
  refine lv_isub hx hb dX12_readTerm_184 ?_
  obtain ⟨i185, hf⟩ := if_some hf
  refine ml47 F K Z i185 dX12_readTerm_185 ?_
  refine lv_aload_n hx hb dX12_readTerm_186 rfl (lv_at hl 0 rfl) ?_
  refine lv_iload hx hb dX12_readTerm_187 (lv_at hl 5 rfl) ?_
  obtain ⟨q189, h189, hf⟩ := bind_some hf
  refine krX12_466_X12_partsOf F K E hA Z h189 ⟨Nat.le_of_ble_eq_true rfl, Nat.le_of_ble_eq_true rfl⟩ hl.1 (Nat.le_of_ble_eq_true rfl) dX12_readTerm_189 (fun H locs Z => ?_)
  refine lv_icmp_ne (tgt := 199) hx hb dX12_readTerm_192 (by decide) (fun c192 => ?_) (fun c192 => ?_)
  · have hf := if_f c192 hf
    refine lv_iconst (v := 0) hx hb dX12_readTerm_199 (by decide) ?_
    exact b_X12_readTerm_200 F hr hk K E hA hk4 hk75 _ _ _ _ _ _ _ hf _ _ _ Z hl
  have hf := if_t c192 hf
  refine lv_iconst (v := 1) hx hb dX12_readTerm_195 (by decide) ?_
  refine lv_goto (tgt := 200) hx hb dX12_readTerm_196 (by decide) ?_
  exact b_X12_readTerm_200 F hr hk K E hA hk4 hk75 _ _ _ _ _ _ _ hf _ _ _ Z hl
set_option maxRecDepth 100000 in
set_option maxHeartbeats 4000000 in
theorem b_X12_readTerm_75 {p : Program} {l : Launch} {e : Env} {s : State} {m : MethodId} {args : Array Value} {below : List Frame} {meth : Method} {c : Code} {D : va_G} {A : Nat → Prop} {ad : Nat → Nat} {cy : Nat → ClassId} {ee : EE} {n : Nat} {res : (Int32 × StT)} (F : CallFix p m c cX12_readTerm 9 s args (Cond.code yX12_readTerm cX12_readTerm 9 (some .int) :: Gw) yX12_readTerm.cls) (hr : meth.sig.returnType = (some .int)) (hk : meth.locks = false) (K : va_K D vwCl (tyL cy) s) (E : EV ee A s s.heap) (hA : ∀ q, s.heap.size ≤ q → A q) {k4 : StT → Int32 → Int32 → Option (Int32 × StT)} (hk4 : ∀ (st : StT) (x2 : Int32) (x3 : Int32), k4 st x2 x3 = some res → ∀ (H : Heap) (locs : List Loc) (ls : Array Slot), ZG D (wM ad cy st) A s H locs → lv_has ls 9 [(0, .ref (ad 0)), (2, .int x2), (3, .int x3)] → W p l e { frames := 7, cells := 0, slots := 0, locals := 163 } s m args below meth c H locs 0 0 (MQ below (QC D (some (.int res.1)) (wM ad cy res.2) A) args s 0 0 A) (F0 m 4 ls [])) : ∀ (k : Nat) (st : StT) (x2 : Int32) (x3 : Int32) (x4 : Int32) (x5 : Int32), f_X12_readTerm_75 n k4 k st x2 x3 x4 x5 = some res → ∀ (H : Heap) (locs : List Loc) (ls : Array Slot), ZG D (wM ad cy st) A s H locs → lv_has ls 9 [(0, .ref (ad 0)), (2, .int x2), (3, .int x3), (4, .int x4), (5, .int x5)] → W p l e { frames := 7, cells := 0, slots := 0, locals := 163 } s m args below meth c H locs 0 0 (MQ below (QC D (some (.int res.1)) (wM ad cy res.2) A) args s 0 0 A) (F0 m 75 ls []) := by
  have hx := F.1
  have hb := F.2.1
  intro k
  induction k with
  | zero =>
    intro st x2 x3 x4 x5 hf
    exact absurd hf (by simp [f_X12_readTerm_75])
  | succ k ih =>
    intro st x2 x3 x4 x5 hf H locs ls Z hl
    rw [f_X12_readTerm_75] at hf
    refine lv_iload hx hb dX12_readTerm_75 (lv_at hl 4 rfl) ?_
    refine lv_if_eq (tgt := 268) hx hb dX12_readTerm_77 (by decide) (fun c77 => ?_) (fun c77 => ?_)
    · have hf := if_t c77 hf
      exact b_X12_readTerm_268 F hr hk K E hA hk4 _ _ _ _ _ hf _ _ _ Z hl
    have hf := if_f c77 hf
    refine lv_iload_n hx hb dX12_readTerm_80 rfl (lv_at hl 1 rfl) ?_
    refine lv_if_le (tgt := 268) hx hb dX12_readTerm_81 (by decide) (fun c81 => ?_) (fun c81 => ?_)
    · have hf := if_t c81 hf
      exact b_X12_readTerm_268 F hr hk K E hA hk4 _ _ _ _ _ hf _ _ _ Z hl
    have hf := if_f c81 hf
    refine lv_aload_n hx hb dX12_readTerm_84 rfl (lv_at hl 0 rfl) ?_
    refine gmX12_257 F K Z dX12_readTerm_85 ?_
    refine lv_if_ne (tgt := 268) hx hb dX12_readTerm_88 (by decide) (fun c88 => ?_) (fun c88 => ?_)
    · have hf := if_f c88 hf
      exact b_X12_readTerm_268 F hr hk K E hA hk4 _ _ _ _ _ hf _ _ _ Z hl
    have hf := if_t c88 hf
    refine lv_aload_n hx hb dX12_readTerm_91 rfl (lv_at hl 0 rfl) ?_
    refine gmX12_154 F K Z dX12_readTerm_92 ?_
    refine lv_iload_n hx hb dX12_readTerm_95 rfl (lv_at hl 1 rfl) ?_
    refine lv_iconst (v := 1) hx hb dX12_readTerm_96 (by decide) ?_
    refine lv_isub hx hb dX12_readTerm_97 ?_
    obtain ⟨i98, hf⟩ := if_some hf
    refine ml46 F K Z i98 dX12_readTerm_98 ?_
    refine lv_istore (lv' := [(6, .int (st.2.1 45 ((x2 - (1 : Int32))).toNatClampNeg)), (0, .ref (ad 0)), (2, .int x2), (3, .int x3), (4, .int x4), (5, .int x5)]) hx hb dX12_readTerm_99 hl (by decide) rfl (fun ls hl => ?_)
    refine lv_aload_n hx hb dX12_readTerm_101 rfl (lv_at hl 1 rfl) ?_
    refine gmX12_139 F K Z dX12_readTerm_102 ?_
    refine lv_iload hx hb dX12_readTerm_105 (lv_at hl 0 rfl) ?_
    obtain ⟨i107, hf⟩ := if_some hf
    refine ml41 F K Z i107 dX12_readTerm_107 ?_
    refine lv_istore (lv' := [(7, .int (st.2.1 40 ((st.2.1 45 ((x2 - (1 : Int32))).toNatClampNeg)).toNatClampNeg)), (6, .int (st.2.1 45 ((x2 - (1 : Int32))).toNatClampNeg)), (0, .ref (ad 0)), (2, .int x2), (3, .int x3), (4, .int x4), (5, .int x5)]) hx hb dX12_readTerm_108 hl (by decide) rfl (fun ls hl => ?_)
    refine lv_aload_n hx hb dX12_readTerm_110 rfl (lv_at hl 2 rfl) ?_
    refine gmX12_157 F K Z dX12_readTerm_111 ?_
    refine lv_iload_n hx hb dX12_readTerm_114 rfl (lv_at hl 3 rfl) ?_
    refine lv_iconst (v := 1) hx hb dX12_readTerm_115 (by decide) ?_
    refine lv_isub hx hb dX12_readTerm_116 ?_
    obtain ⟨i117, hf⟩ := if_some hf
    refine ml47 F K Z i117 dX12_readTerm_117 ?_
    refine lv_if_ne (tgt := 133) hx hb dX12_readTerm_118 (by decide) (fun c118 => ?_) (fun c118 => ?_)
    · have hf := if_f c118 hf
      refine lv_aload_n hx hb dX12_readTerm_133 rfl (lv_at hl 2 rfl) ?_
      refine gmX12_157 F K Z dX12_readTerm_134 ?_
      refine lv_iload_n hx hb dX12_readTerm_137 rfl (lv_at hl 3 rfl) ?_
      refine lv_iconst (v := 1) hx hb dX12_readTerm_138 (by decide) ?_
      refine lv_isub hx hb dX12_readTerm_139 ?_
      obtain ⟨i140, hf⟩ := if_some hf
      refine ml47 F K Z i140 dX12_readTerm_140 ?_
      refine lv_iconst (v := 1) hx hb dX12_readTerm_141 (by decide) ?_
      refine lv_icmp_ne (tgt := 157) hx hb dX12_readTerm_142 (by decide) (fun c142 => ?_) (fun c142 => ?_)
      · have hf := if_f c142 hf
        refine lv_aload_n hx hb dX12_readTerm_157 rfl (lv_at hl 2 rfl) ?_
        refine gmX12_151 F K Z dX12_readTerm_158 ?_
        refine lv_iload hx hb dX12_readTerm_161 (lv_at hl 1 rfl) ?_
        refine lv_iload hx hb dX12_readTerm_163 (lv_at hl 5 rfl) ?_
        obtain ⟨i165, hf⟩ := if_some hf
        refine ms45 F K Z i165 dX12_readTerm_165 (fun H locs Z => ?_)
        exact b_X12_readTerm_166 F hr hk K E hA hk4 ih _ _ _ _ _ _ hf _ _ _ Z (lv_sub hl [2, 3, 4, 5, 1, 0] rfl)
      have hf := if_t c142 hf
      refine lv_aload_n hx hb dX12_readTerm_145 rfl (lv_at hl 2 rfl) ?_
      refine gmX12_148 F K Z dX12_readTerm_146 ?_
      refine lv_iload hx hb dX12_readTerm_149 (lv_at hl 1 rfl) ?_
      refine lv_iload hx hb dX12_readTerm_151 (lv_at hl 5 rfl) ?_
      obtain ⟨i153, hf⟩ := if_some hf
      refine ms44 F K Z i153 dX12_readTerm_153 (fun H locs Z => ?_)
      refine lv_goto (tgt := 166) hx hb dX12_readTerm_154 (by decide) ?_
      exact b_X12_readTerm_166 F hr hk K E hA hk4 ih _ _ _ _ _ _ hf _ _ _ Z (lv_sub hl [2, 3, 4, 5, 1, 0] rfl)
    have hf := if_t c118 hf
    refine lv_aload_n hx hb dX12_readTerm_121 rfl (lv_at hl 2 rfl) ?_
    refine gmX12_145 F K Z dX12_readTerm_122 ?_
    refine lv_iload hx hb dX12_readTerm_125 (lv_at hl 1 rfl) ?_
    refine lv_iload hx hb dX12_readTerm_127 (lv_at hl 5 rfl) ?_
    obtain ⟨i129, hf⟩ := if_some hf
    refine ms43 F K Z i129 dX12_readTerm_129 (fun H locs Z => ?_)
    refine lv_goto (tgt := 166) hx hb dX12_readTerm_130 (by decide) ?_
    exact b_X12_readTerm_166 F hr hk K E hA hk4 ih _ _ _ _ _ _ hf _ _ _ Z (lv_sub hl [2, 3, 4, 5, 1, 0] rfl)
set_option maxRecDepth 100000 in
set_option maxHeartbeats 4000000 in
theorem b_X12_readTerm_4 {p : Program} {l : Launch} {e : Env} {s : State} {m : MethodId} {args : Array Value} {below : List Frame} {meth : Method} {c : Code} {D : va_G} {A : Nat → Prop} {ad : Nat → Nat} {cy : Nat → ClassId} {ee : EE} {n : Nat} {res : (Int32 × StT)} (F : CallFix p m c cX12_readTerm 9 s args (Cond.code yX12_readTerm cX12_readTerm 9 (some .int) :: Gw) yX12_readTerm.cls) (hr : meth.sig.returnType = (some .int)) (hk : meth.locks = false) (K : va_K D vwCl (tyL cy) s) (E : EV ee A s s.heap) (hA : ∀ q, s.heap.size ≤ q → A q) : ∀ (k : Nat) (st : StT) (x2 : Int32) (x3 : Int32), f_X12_readTerm_4 n k st x2 x3 = some res → ∀ (H : Heap) (locs : List Loc) (ls : Array Slot), ZG D (wM ad cy st) A s H locs → lv_has ls 9 [(0, .ref (ad 0)), (2, .int x2), (3, .int x3)] → W p l e { frames := 7, cells := 0, slots := 0, locals := 163 } s m args below meth c H locs 0 0 (MQ below (QC D (some (.int res.1)) (wM ad cy res.2) A) args s 0 0 A) (F0 m 4 ls []) := by
  have hx := F.1
  have hb := F.2.1
  intro k
  induction k with
  | zero =>
    intro st x2 x3 hf
    exact absurd hf (by simp [f_X12_readTerm_4])
  | succ k ih =>
    intro st x2 x3 hf H locs ls Z hl
    rw [f_X12_readTerm_4] at hf
    refine lv_aload_n hx hb dX12_readTerm_4 rfl (lv_at hl 0 rfl) ?_
    refine gmX12_257 F K Z dX12_readTerm_5 ?_
    refine lv_if_ne (tgt := 290) hx hb dX12_readTerm_8 (by decide) (fun c8 => ?_) (fun c8 => ?_)
    · have hf := if_f c8 hf
      refine lv_iconst (v := -1) hx hb dX12_readTerm_290 (by decide) ?_
      have hf := Option.some.inj hf
      subst hf
      exact ret_i F hr hk Z dX12_readTerm_291
    have hf := if_t c8 hf
    refine lv_aload_n hx hb dX12_readTerm_11 rfl (lv_at hl 0 rfl) ?_
    refine lv_iload_n hx hb dX12_readTerm_12 rfl (lv_at hl 1 rfl) ?_
    refine lv_iload_n hx hb dX12_readTerm_13 rfl (lv_at hl 2 rfl) ?_
    obtain ⟨q14, h14, hf⟩ := bind_some hf
    refine krX12_463_X12_beginTerm F K E hA Z h14 ⟨Nat.le_of_ble_eq_true rfl, Nat.le_of_ble_eq_true rfl⟩ hl.1 (Nat.le_of_ble_eq_true rfl) dX12_readTerm_14 (fun H locs Z => ?_)
    refine lv_istore (lv' := [(4, .int q14.1), (0, .ref (ad 0)), (2, .int x2), (3, .int x3)]) hx hb dX12_readTerm_17 hl (by decide) rfl (fun ls hl => ?_)
    refine lv_aload_n hx hb dX12_readTerm_19 rfl (lv_at hl 1 rfl) ?_
    refine gmX12_257 F K Z dX12_readTerm_20 ?_
    refine lv_if_eq (tgt := 28) hx hb dX12_readTerm_23 (by decide) (fun c23 => ?_) (fun c23 => ?_)
    · have hf := if_t c23 hf
      refine lv_iload hx hb dX12_readTerm_28 (lv_at hl 0 rfl) ?_
      refine lv_if_ge (tgt := 72) hx hb dX12_readTerm_30 (by decide) (fun c30 => ?_) (fun c30 => ?_)
      · have hf := if_t c30 hf
        refine lv_iconst (v := 1) hx hb dX12_readTerm_72 (by decide) ?_
        refine lv_istore (lv' := [(5, .int (1 : Int32)), (4, .int q14.1), (0, .ref (ad 0)), (2, .int x2), (3, .int x3)]) hx hb dX12_readTerm_73 hl (by decide) rfl (fun ls hl => ?_)
        exact b_X12_readTerm_75 F hr hk K E hA ih _ _ _ _ _ _ hf _ _ _ Z (lv_sub hl [2, 3, 4, 1, 0] rfl)
      have hf := if_f c30 hf
      refine lv_aload_n hx hb dX12_readTerm_33 rfl (lv_at hl 1 rfl) ?_
      refine gmX12_139 F K Z dX12_readTerm_34 ?_
      refine lv_aload_n hx hb dX12_readTerm_37 rfl (lv_at hl 1 rfl) ?_
      refine gmX12_154 F K Z dX12_readTerm_38 ?_
      refine lv_iload_n hx hb dX12_readTerm_41 rfl (lv_at hl 2 rfl) ?_
      obtain ⟨i42, hf⟩ := if_some hf
      refine ml46 F K Z i42 dX12_readTerm_42 ?_
      obtain ⟨i43, hf⟩ := if_some hf
      refine ml41 F K Z i43 dX12_readTerm_43 ?_
      refine lv_istore (lv' := [(5, .int (q14.2.2.1 40 ((q14.2.2.1 45 (x2).toNatClampNeg)).toNatClampNeg)), (4, .int q14.1), (0, .ref (ad 0)), (2, .int x2), (3, .int x3)]) hx hb dX12_readTerm_44 hl (by decide) rfl (fun ls hl => ?_)
      refine lv_aload_n hx hb dX12_readTerm_46 rfl (lv_at hl 2 rfl) ?_
      refine gmX12_160 F K Z dX12_readTerm_47 ?_
      refine lv_iload_n hx hb dX12_readTerm_50 rfl (lv_at hl 3 rfl) ?_
      obtain ⟨i51, hf⟩ := if_some hf
      refine ml48 F K Z i51 dX12_readTerm_51 ?_
      refine lv_iload hx hb dX12_readTerm_52 (lv_at hl 0 rfl) ?_
      refine lv_bipush (v := 76) hx hb dX12_readTerm_54 (by decide) ?_
      refine lv_icmp_ne (tgt := 63) hx hb dX12_readTerm_56 (by decide) (fun c56 => ?_) (fun c56 => ?_)
      · have hf := if_f c56 hf
        refine lv_iconst (v := 0) hx hb dX12_readTerm_63 (by decide) ?_
        refine lv_iadd hx hb dX12_readTerm_64 ?_
        refine lv_istore_n (lv' := [(3, .int ((q14.2.2.1 47 (x2).toNatClampNeg) + (0 : Int32))), (5, .int (q14.2.2.1 40 ((q14.2.2.1 45 (x2).toNatClampNeg)).toNatClampNeg)), (4, .int q14.1), (0, .ref (ad 0)), (2, .int x2)]) hx hb dX12_readTerm_65 rfl hl (by decide) rfl (fun ls hl => ?_)
        refine lv_iinc (v := (x2 + (1 : Int32))) (lv' := [(2, .int (x2 + (1 : Int32))), (3, .int ((q14.2.2.1 47 (x2).toNatClampNeg) + (0 : Int32))), (5, .int (q14.2.2.1 40 ((q14.2.2.1 45 (x2).toNatClampNeg)).toNatClampNeg)), (4, .int q14.1), (0, .ref (ad 0))]) hx hb dX12_readTerm_66 hl (k := 4) rfl (congrArg (fun z => x2 + z) (by decide)) (by decide) rfl (fun ls hl => ?_)
        refine lv_goto (tgt := 287) hx hb dX12_readTerm_69 (by decide) ?_
        refine lv_goto (tgt := 4) hx hb dX12_readTerm_287 (by decide) ?_
        exact ih _ _ _ hf _ _ _ Z (lv_sub hl [4, 0, 1] rfl)
      have hf := if_t c56 hf
      refine lv_iconst (v := 1) hx hb dX12_readTerm_59 (by decide) ?_
      refine lv_goto (tgt := 64) hx hb dX12_readTerm_60 (by decide) ?_
      refine lv_iadd hx hb dX12_readTerm_64 ?_
      refine lv_istore_n (lv' := [(3, .int ((q14.2.2.1 47 (x2).toNatClampNeg) + (1 : Int32))), (5, .int (q14.2.2.1 40 ((q14.2.2.1 45 (x2).toNatClampNeg)).toNatClampNeg)), (4, .int q14.1), (0, .ref (ad 0)), (2, .int x2)]) hx hb dX12_readTerm_65 rfl hl (by decide) rfl (fun ls hl => ?_)
      refine lv_iinc (v := (x2 + (1 : Int32))) (lv' := [(2, .int (x2 + (1 : Int32))), (3, .int ((q14.2.2.1 47 (x2).toNatClampNeg) + (1 : Int32))), (5, .int (q14.2.2.1 40 ((q14.2.2.1 45 (x2).toNatClampNeg)).toNatClampNeg)), (4, .int q14.1), (0, .ref (ad 0))]) hx hb dX12_readTerm_66 hl (k := 4) rfl (congrArg (fun z => x2 + z) (by decide)) (by decide) rfl (fun ls hl => ?_)
      refine lv_goto (tgt := 287) hx hb dX12_readTerm_69 (by decide) ?_
      refine lv_goto (tgt := 4) hx hb dX12_readTerm_287 (by decide) ?_
      exact ih _ _ _ hf _ _ _ Z (lv_sub hl [4, 0, 1] rfl)
    have hf := if_f c23 hf
    refine lv_iconst (v := -1) hx hb dX12_readTerm_26 (by decide) ?_
    have hf := Option.some.inj hf
    subst hf
    exact ret_i F hr hk Z dX12_readTerm_27
set_option maxRecDepth 100000 in
set_option maxHeartbeats 4000000 in
theorem c_X12_readTerm {l : Launch} {D : va_G} {ad : Nat → Nat} {cy : Nat → ClassId} {ee : EE} {n : Nat} {st : StT} {x1 : Int32} {res : (Int32 × StT)} (hf : f_X12_readTerm n st x1 = some res) : CT l yX12_readTerm cX12_readTerm 9 (some .int) 7 163 D cy ee (wM ad cy st) (wM ad cy res.2) [.ref (ad 0), .int x1] (some (.int res.1)) := by
  refine CT.of (by decide +kernel) (Nat.le_of_ble_eq_true rfl) ?_
  intro p e s m args below meth c A F hr hk K E hA Z ls hl
  have hl : lv_has ls 9 [(0, .ref (ad 0)), (1, .int x1)] := hl
  have hx := F.1
  have hb := F.2.1
  unfold f_X12_readTerm at hf
  refine lv_iconst (v := 0) hx hb dX12_readTerm_0 (by decide) ?_
  refine lv_istore_n (lv' := [(2, .int (0 : Int32)), (0, .ref (ad 0)), (1, .int x1)]) hx hb dX12_readTerm_1 rfl hl (by decide) rfl (fun ls hl => ?_)
  refine lv_iload_n hx hb dX12_readTerm_2 rfl (lv_at hl 2 rfl) ?_
  refine lv_istore_n (lv' := [(3, .int x1), (2, .int (0 : Int32)), (0, .ref (ad 0)), (1, .int x1)]) hx hb dX12_readTerm_3 rfl hl (by decide) rfl (fun ls hl => ?_)
  exact b_X12_readTerm_4 F hr hk K E hA _ _ _ _ hf _ _ _ Z (lv_sub hl [2, 1, 0] rfl)
def f_X12_askedFormula_22 (n : Nat) : Nat → StT → Int32 → Int32 → Int32 → Int32 → Option (Int32 × StT)
  | 0, _, _, _, _, _ => none
  | k + 1, st, x1, x2, x3, x5 => if ((2000 : Int32) + (st.1 1)) ≤ x5 then (if inB ((2000 : Int32) + (st.1 1)) 4200 = true then (if inB ((2000 : Int32) + ((uA st 0 ((2000 : Int32) + (st.1 1)) x1).1 1)) 4200 = true then (if inB ((2000 : Int32) + ((uA (uA st 0 ((2000 : Int32) + (st.1 1)) x1) 1 ((2000 : Int32) + ((uA st 0 ((2000 : Int32) + (st.1 1)) x1).1 1)) x2).1 1)) 4200 = true then (some ((((2000 : Int32) + ((uF (uA (uA (uA st 0 ((2000 : Int32) + (st.1 1)) x1) 1 ((2000 : Int32) + ((uA st 0 ((2000 : Int32) + (st.1 1)) x1).1 1)) x2) 2 ((2000 : Int32) + ((uA (uA st 0 ((2000 : Int32) + (st.1 1)) x1) 1 ((2000 : Int32) + ((uA st 0 ((2000 : Int32) + (st.1 1)) x1).1 1)) x2).1 1)) x3) 1 (((uA (uA (uA st 0 ((2000 : Int32) + (st.1 1)) x1) 1 ((2000 : Int32) + ((uA st 0 ((2000 : Int32) + (st.1 1)) x1).1 1)) x2) 2 ((2000 : Int32) + ((uA (uA st 0 ((2000 : Int32) + (st.1 1)) x1) 1 ((2000 : Int32) + ((uA st 0 ((2000 : Int32) + (st.1 1)) x1).1 1)) x2).1 1)) x3).1 1) + (1 : Int32))).1 1)) - (1 : Int32)), (uF (uA (uA (uA st 0 ((2000 : Int32) + (st.1 1)) x1) 1 ((2000 : Int32) + ((uA st 0 ((2000 : Int32) + (st.1 1)) x1).1 1)) x2) 2 ((2000 : Int32) + ((uA (uA st 0 ((2000 : Int32) + (st.1 1)) x1) 1 ((2000 : Int32) + ((uA st 0 ((2000 : Int32) + (st.1 1)) x1).1 1)) x2).1 1)) x3) 1 (((uA (uA (uA st 0 ((2000 : Int32) + (st.1 1)) x1) 1 ((2000 : Int32) + ((uA st 0 ((2000 : Int32) + (st.1 1)) x1).1 1)) x2) 2 ((2000 : Int32) + ((uA (uA st 0 ((2000 : Int32) + (st.1 1)) x1) 1 ((2000 : Int32) + ((uA st 0 ((2000 : Int32) + (st.1 1)) x1).1 1)) x2).1 1)) x3).1 1) + (1 : Int32))))) else none) else none) else none) else (if inB x5 4200 = true then (if (st.2.1 0 (x5).toNatClampNeg) = x1 then (if inB x5 4200 = true then (if (st.2.1 1 (x5).toNatClampNeg) = x2 then (if inB x5 4200 = true then (if (st.2.1 2 (x5).toNatClampNeg) = x3 then (some (x5, st)) else (f_X12_askedFormula_22 n k st x1 x2 x3 (x5 + (1 : Int32)))) else none) else (f_X12_askedFormula_22 n k st x1 x2 x3 (x5 + (1 : Int32)))) else none) else (f_X12_askedFormula_22 n k st x1 x2 x3 (x5 + (1 : Int32)))) else none)
def f_X12_askedFormula (n : Nat) (st : StT) (x1 : Int32) (x2 : Int32) (x3 : Int32) : Option (Int32 × StT) := (f_X12_find n st x1 x2 x3).bind fun q4 => (if q4.1 < 0 then (f_X12_askedFormula_22 n n q4.2 x1 x2 x3 (2000 : Int32)) else (some (q4.1, q4.2)))
theorem wd1285 : Cond.fieldLink RX12 469 "WorldProverModel" "asked" "I" ∈ Gw := gT6 (List.mem_of_getElem? (i := 62) rfl) rfl
section
variable {p : Program} {l : Launch} {e : Env} {R : Room} {s : State} {m : MethodId} {args : Array Value} {below : List Frame} {meth : Method} {c : Code} {H : Heap} {locs : List Loc} {Q : State → Prop}
variable {cc : ByteArray} {nL pc : Nat} {ls : Array Slot} {rest : List Value} {D : va_G} {A : Nat → Prop} {cw : Cond} {ad : Nat → Nat} {cy : Nat → ClassId} {ee : EE} {st : StT} {own : String}
theorem gmX12_469 (F : CallFix p m c cc nL s args (cw :: Gw) RX12) (K : va_K D vwCl (tyL cy) s) (Z : ZG D (wM ad cy st) A s H locs) (hd : decode cc pc = .ok (.getfield 469, 3)) (kk : W p l e R s m args below meth c H locs 0 0 Q (F0 m (pc + 3) ls (.int (st.1 1) :: rest))) : W p l e R s m args below meth c H locs 0 0 Q (F0 m pc ls (.ref (ad 0) :: rest)) :=
  va_get (D := D) (ci := 12) (C := RX12) (T := TX12) (N := 98) F.1 F.2.1 F.2.2.2.2 (fun w h => List.mem_cons_of_mem _ (inG_X12 w h)) F.2.2.2.1 K Z.1 0 rfl rfl 4 (by decide) (F.2.2.2.2 _ (List.mem_cons_of_mem _ wd1285)) (fun _ h => h) rfl hd kk
theorem pmX12_469 {v : Int32} (F : CallFix p m c cc nL s args (cw :: Gw) RX12) (K : va_K D vwCl (tyL cy) s) (Z : ZG D (wM ad cy st) A s H locs) (hd : decode cc pc = .ok (.putfield 469, 3)) (kk : ∀ (H1 : Heap) (locs1 : List Loc), ZG D (wM ad cy (uF st 1 v)) A s H1 locs1 → W p l e R s m args below meth c H1 locs1 0 0 Q (F0 m (pc + 3) ls rest)) : W p l e R s m args below meth c H locs 0 0 Q (F0 m pc ls (.int v :: .ref (ad 0) :: rest)) :=
  va_put (D := D) (ci := 12) (v := .int v) (ty := .int) (C := RX12) (T := TX12) (N := 98) F.1 F.2.1 F.2.2.2.2 (fun w h => List.mem_cons_of_mem _ (inG_X12 w h)) tyX12 tyX12_ok nmX12 F.2.2.2.1 K Z.1 Z.2.1 Z.2.2 0 rfl rfl 4 (by decide) (F.2.2.2.2 _ (List.mem_cons_of_mem _ wd1285)) (fun _ h => h) rfl (by decide +kernel) rfl rfl (Nat.le_of_ble_eq_true rfl) hd (fun H1 locs1 hP hD hS => kk H1 locs1 ⟨hP, hD, hS⟩)
end
set_option maxRecDepth 100000 in
set_option maxHeartbeats 4000000 in
theorem b_X12_askedFormula_22 {p : Program} {l : Launch} {e : Env} {s : State} {m : MethodId} {args : Array Value} {below : List Frame} {meth : Method} {c : Code} {D : va_G} {A : Nat → Prop} {ad : Nat → Nat} {cy : Nat → ClassId} {ee : EE} {n : Nat} {res : (Int32 × StT)} (F : CallFix p m c cX12_askedFormula 6 s args (Cond.code yX12_askedFormula cX12_askedFormula 6 (some .int) :: Gw) yX12_askedFormula.cls) (hr : meth.sig.returnType = (some .int)) (hk : meth.locks = false) (K : va_K D vwCl (tyL cy) s) (E : EV ee A s s.heap) (hA : ∀ q, s.heap.size ≤ q → A q) : ∀ (k : Nat) (st : StT) (x1 : Int32) (x2 : Int32) (x3 : Int32) (x5 : Int32), f_X12_askedFormula_22 n k st x1 x2 x3 x5 = some res → ∀ (H : Heap) (locs : List Loc) (ls : Array Slot), ZG D (wM ad cy st) A s H locs → lv_has ls 6 [(0, .ref (ad 0)), (1, .int x1), (2, .int x2), (3, .int x3), (5, .int x5)] → W p l e { frames := 1, cells := 0, slots := 0, locals := 24 } s m args below meth c H locs 0 0 (MQ below (QC D (some (.int res.1)) (wM ad cy res.2) A) args s 0 0 A) (F0 m 22 ls []) := by
  have hx := F.1
  have hb := F.2.1
  intro k
  induction k with
  | zero =>
    intro st x1 x2 x3 x5 hf
    exact absurd hf (by simp [f_X12_askedFormula_22])
  | succ k ih =>
    intro st x1 x2 x3 x5 hf H locs ls Z hl
    rw [f_X12_askedFormula_22] at hf
    refine lv_iload hx hb dX12_askedFormula_22 (lv_at hl 4 rfl) ?_
    refine lv_sipush (v := 2000) hx hb dX12_askedFormula_24 (by decide) ?_
    refine lv_aload_n hx hb dX12_askedFormula_27 rfl (lv_at hl 0 rfl) ?_
    refine gmX12_469 F K Z dX12_askedFormula_28 ?_
    refine lv_iadd hx hb dX12_askedFormula_31 ?_
    refine lv_icmp_ge (tgt := 77) hx hb dX12_askedFormula_32 (by decide) (fun c32 => ?_) (fun c32 => ?_)
    · have hf := if_t c32 hf
      refine lv_aload_n hx hb dX12_askedFormula_77 rfl (lv_at hl 0 rfl) ?_
      refine gmX12_7 F K Z dX12_askedFormula_78 ?_
      refine lv_sipush (v := 2000) hx hb dX12_askedFormula_81 (by decide) ?_
      refine lv_aload_n hx hb dX12_askedFormula_84 rfl (lv_at hl 0 rfl) ?_
      refine gmX12_469 F K Z dX12_askedFormula_85 ?_
      refine lv_iadd hx hb dX12_askedFormula_88 ?_
      refine lv_iload_n hx hb dX12_askedFormula_89 rfl (lv_at hl 1 rfl) ?_
      obtain ⟨i90, hf⟩ := if_some hf
      refine ms1 F K Z i90 dX12_askedFormula_90 (fun H locs Z => ?_)
      refine lv_aload_n hx hb dX12_askedFormula_91 rfl (lv_at hl 0 rfl) ?_
      refine gmX12_13 F K Z dX12_askedFormula_92 ?_
      refine lv_sipush (v := 2000) hx hb dX12_askedFormula_95 (by decide) ?_
      refine lv_aload_n hx hb dX12_askedFormula_98 rfl (lv_at hl 0 rfl) ?_
      refine gmX12_469 F K Z dX12_askedFormula_99 ?_
      refine lv_iadd hx hb dX12_askedFormula_102 ?_
      refine lv_iload_n hx hb dX12_askedFormula_103 rfl (lv_at hl 2 rfl) ?_
      obtain ⟨i104, hf⟩ := if_some hf
      refine ms2 F K Z i104 dX12_askedFormula_104 (fun H locs Z => ?_)
      refine lv_aload_n hx hb dX12_askedFormula_105 rfl (lv_at hl 0 rfl) ?_
      refine gmX12_16 F K Z dX12_askedFormula_106 ?_
      refine lv_sipush (v := 2000) hx hb dX12_askedFormula_109 (by decide) ?_
      refine lv_aload_n hx hb dX12_askedFormula_112 rfl (lv_at hl 0 rfl) ?_
      refine gmX12_469 F K Z dX12_askedFormula_113 ?_
      refine lv_iadd hx hb dX12_askedFormula_116 ?_
      refine lv_iload_n hx hb dX12_askedFormula_117 rfl (lv_at hl 3 rfl) ?_
      obtain ⟨i118, hf⟩ := if_some hf
      refine ms3 F K Z i118 dX12_askedFormula_118 (fun H locs Z => ?_)
      refine lv_aload_n hx hb dX12_askedFormula_119 rfl (lv_at hl 0 rfl) ?_
      refine lv_dup hx hb dX12_askedFormula_120 rfl ?_
      refine gmX12_469 F K Z dX12_askedFormula_121 ?_
      refine lv_iconst (v := 1) hx hb dX12_askedFormula_124 (by decide) ?_
      refine lv_iadd hx hb dX12_askedFormula_125 ?_
      refine pmX12_469 F K Z dX12_askedFormula_126 (fun H locs Z => ?_)
      refine lv_sipush (v := 2000) hx hb dX12_askedFormula_129 (by decide) ?_
      refine lv_aload_n hx hb dX12_askedFormula_132 rfl (lv_at hl 0 rfl) ?_
      refine gmX12_469 F K Z dX12_askedFormula_133 ?_
      refine lv_iadd hx hb dX12_askedFormula_136 ?_
      refine lv_iconst (v := 1) hx hb dX12_askedFormula_137 (by decide) ?_
      refine lv_isub hx hb dX12_askedFormula_138 ?_
      have hf := Option.some.inj hf
      subst hf
      exact ret_i F hr hk Z dX12_askedFormula_139
    have hf := if_f c32 hf
    refine lv_aload_n hx hb dX12_askedFormula_35 rfl (lv_at hl 0 rfl) ?_
    refine gmX12_7 F K Z dX12_askedFormula_36 ?_
    refine lv_iload hx hb dX12_askedFormula_39 (lv_at hl 4 rfl) ?_
    obtain ⟨i41, hf⟩ := if_some hf
    refine ml1 F K Z i41 dX12_askedFormula_41 ?_
    refine lv_iload_n hx hb dX12_askedFormula_42 rfl (lv_at hl 1 rfl) ?_
    refine lv_icmp_ne (tgt := 71) hx hb dX12_askedFormula_43 (by decide) (fun c43 => ?_) (fun c43 => ?_)
    · have hf := if_f c43 hf
      refine lv_iinc (v := (x5 + (1 : Int32))) (lv' := [(5, .int (x5 + (1 : Int32))), (0, .ref (ad 0)), (1, .int x1), (2, .int x2), (3, .int x3)]) hx hb dX12_askedFormula_71 hl (k := 4) rfl (congrArg (fun z => x5 + z) (by decide)) (by decide) rfl (fun ls hl => ?_)
      refine lv_goto (tgt := 22) hx hb dX12_askedFormula_74 (by decide) ?_
      exact ih _ _ _ _ _ hf _ _ _ Z (lv_sub hl [1, 2, 3, 4, 0] rfl)
    have hf := if_t c43 hf
    refine lv_aload_n hx hb dX12_askedFormula_46 rfl (lv_at hl 0 rfl) ?_
    refine gmX12_13 F K Z dX12_askedFormula_47 ?_
    refine lv_iload hx hb dX12_askedFormula_50 (lv_at hl 4 rfl) ?_
    obtain ⟨i52, hf⟩ := if_some hf
    refine ml2 F K Z i52 dX12_askedFormula_52 ?_
    refine lv_iload_n hx hb dX12_askedFormula_53 rfl (lv_at hl 2 rfl) ?_
    refine lv_icmp_ne (tgt := 71) hx hb dX12_askedFormula_54 (by decide) (fun c54 => ?_) (fun c54 => ?_)
    · have hf := if_f c54 hf
      refine lv_iinc (v := (x5 + (1 : Int32))) (lv' := [(5, .int (x5 + (1 : Int32))), (0, .ref (ad 0)), (1, .int x1), (2, .int x2), (3, .int x3)]) hx hb dX12_askedFormula_71 hl (k := 4) rfl (congrArg (fun z => x5 + z) (by decide)) (by decide) rfl (fun ls hl => ?_)
      refine lv_goto (tgt := 22) hx hb dX12_askedFormula_74 (by decide) ?_
      exact ih _ _ _ _ _ hf _ _ _ Z (lv_sub hl [1, 2, 3, 4, 0] rfl)
    have hf := if_t c54 hf
    refine lv_aload_n hx hb dX12_askedFormula_57 rfl (lv_at hl 0 rfl) ?_
    refine gmX12_16 F K Z dX12_askedFormula_58 ?_
    refine lv_iload hx hb dX12_askedFormula_61 (lv_at hl 4 rfl) ?_
    obtain ⟨i63, hf⟩ := if_some hf
    refine ml3 F K Z i63 dX12_askedFormula_63 ?_
    refine lv_iload_n hx hb dX12_askedFormula_64 rfl (lv_at hl 3 rfl) ?_
    refine lv_icmp_ne (tgt := 71) hx hb dX12_askedFormula_65 (by decide) (fun c65 => ?_) (fun c65 => ?_)
    · have hf := if_f c65 hf
      refine lv_iinc (v := (x5 + (1 : Int32))) (lv' := [(5, .int (x5 + (1 : Int32))), (0, .ref (ad 0)), (1, .int x1), (2, .int x2), (3, .int x3)]) hx hb dX12_askedFormula_71 hl (k := 4) rfl (congrArg (fun z => x5 + z) (by decide)) (by decide) rfl (fun ls hl => ?_)
      refine lv_goto (tgt := 22) hx hb dX12_askedFormula_74 (by decide) ?_
      exact ih _ _ _ _ _ hf _ _ _ Z (lv_sub hl [1, 2, 3, 4, 0] rfl)
    have hf := if_t c65 hf
    refine lv_iload hx hb dX12_askedFormula_68 (lv_at hl 4 rfl) ?_
    have hf := Option.some.inj hf
    subst hf
    exact ret_i F hr hk Z dX12_askedFormula_70
set_option maxRecDepth 100000 in
set_option maxHeartbeats 4000000 in
theorem c_X12_askedFormula {l : Launch} {D : va_G} {ad : Nat → Nat} {cy : Nat → ClassId} {ee : EE} {n : Nat} {st : StT} {x1 : Int32} {x2 : Int32} {x3 : Int32} {res : (Int32 × StT)} (hf : f_X12_askedFormula n st x1 x2 x3 = some res) : CT l yX12_askedFormula cX12_askedFormula 6 (some .int) 1 24 D cy ee (wM ad cy st) (wM ad cy res.2) [.ref (ad 0), .int x1, .int x2, .int x3] (some (.int res.1)) := by
  refine CT.of (by decide +kernel) (Nat.le_of_ble_eq_true rfl) ?_
  intro p e s m args below meth c A F hr hk K E hA Z ls hl
  have hl : lv_has ls 6 [(0, .ref (ad 0)), (1, .int x1), (2, .int x2), (3, .int x3)] := hl
  have hx := F.1
  have hb := F.2.1
  unfold f_X12_askedFormula at hf
  refine lv_aload_n hx hb dX12_askedFormula_0 rfl (lv_at hl 0 rfl) ?_
  refine lv_iload_n hx hb dX12_askedFormula_1 rfl (lv_at hl 1 rfl) ?_
  refine lv_iload_n hx hb dX12_askedFormula_2 rfl (lv_at hl 2 rfl) ?_
  refine lv_iload_n hx hb dX12_askedFormula_3 rfl (lv_at hl 3 rfl) ?_
  obtain ⟨q4, h4, hf⟩ := bind_some hf
  refine krX12_210_X12_find F K E hA Z h4 ⟨Nat.le_of_ble_eq_true rfl, Nat.le_of_ble_eq_true rfl⟩ hl.1 (Nat.le_of_ble_eq_true rfl) dX12_askedFormula_4 (fun H locs Z => ?_)
  refine lv_istore (lv' := [(4, .int q4.1), (0, .ref (ad 0)), (1, .int x1), (2, .int x2), (3, .int x3)]) hx hb dX12_askedFormula_7 hl (by decide) rfl (fun ls hl => ?_)
  refine lv_iload hx hb dX12_askedFormula_9 (lv_at hl 0 rfl) ?_
  refine lv_if_lt (tgt := 17) hx hb dX12_askedFormula_11 (by decide) (fun c11 => ?_) (fun c11 => ?_)
  · have hf := if_t c11 hf
    refine lv_sipush (v := 2000) hx hb dX12_askedFormula_17 (by decide) ?_
    refine lv_istore (lv' := [(5, .int (2000 : Int32)), (4, .int q4.1), (0, .ref (ad 0)), (1, .int x1), (2, .int x2), (3, .int x3)]) hx hb dX12_askedFormula_20 hl (by decide) rfl (fun ls hl => ?_)
    exact b_X12_askedFormula_22 F hr hk K E hA _ _ _ _ _ _ hf _ _ _ Z (lv_sub hl [2, 3, 4, 5, 0] rfl)
  have hf := if_f c11 hf
  refine lv_iload hx hb dX12_askedFormula_14 (lv_at hl 0 rfl) ?_
  have hf := Option.some.inj hf
  subst hf
  exact ret_i F hr hk Z dX12_askedFormula_16
def f_X12_askOf (n : Nat) (st : StT) (x1 : Int32) (x2 : Int32) : Option (Int32 × StT) := if inB (st.1 35) 3300 = true then (if inB ((uA st 49 (st.1 35) x1).1 35) 3300 = true then (if inB ((uA (uA st 49 (st.1 35) x1) 50 ((uA st 49 (st.1 35) x1).1 35) x2).1 35) 3300 = true then (some ((-2 : Int32), (uF (uA (uA (uA st 49 (st.1 35) x1) 50 ((uA st 49 (st.1 35) x1).1 35) x2) 51 ((uA (uA st 49 (st.1 35) x1) 50 ((uA st 49 (st.1 35) x1).1 35) x2).1 35) (0 : Int32)) 35 (((uA (uA (uA st 49 (st.1 35) x1) 50 ((uA st 49 (st.1 35) x1).1 35) x2) 51 ((uA (uA st 49 (st.1 35) x1) 50 ((uA st 49 (st.1 35) x1).1 35) x2).1 35) (0 : Int32)).1 35) + (1 : Int32))))) else none) else none) else none
theorem wd1286 : Cond.fieldLink RX12 166 "WorldProverModel" "askTerm" "[I" ∈ Gw := gT6 (List.mem_of_getElem? (i := 142) rfl) rfl
theorem wd1287 : Cond.fieldLink RX12 472 "WorldProverModel" "asks" "I" ∈ Gw := gT6 (List.mem_of_getElem? (i := 146) rfl) rfl
theorem wd1288 : Cond.fieldLink RX12 169 "WorldProverModel" "askGoal" "[I" ∈ Gw := gT6 (List.mem_of_getElem? (i := 143) rfl) rfl
theorem wd1289 : Cond.fieldLink RX12 172 "WorldProverModel" "askStage" "[I" ∈ Gw := gT6 (List.mem_of_getElem? (i := 144) rfl) rfl
section
variable {p : Program} {l : Launch} {e : Env} {R : Room} {s : State} {m : MethodId} {args : Array Value} {below : List Frame} {meth : Method} {c : Code} {H : Heap} {locs : List Loc} {Q : State → Prop}
variable {cc : ByteArray} {nL pc : Nat} {ls : Array Slot} {rest : List Value} {D : va_G} {A : Nat → Prop} {cw : Cond} {ad : Nat → Nat} {cy : Nat → ClassId} {ee : EE} {st : StT} {own : String}
theorem gmX12_166 (F : CallFix p m c cc nL s args (cw :: Gw) RX12) (K : va_K D vwCl (tyL cy) s) (Z : ZG D (wM ad cy st) A s H locs) (hd : decode cc pc = .ok (.getfield 166, 3)) (kk : W p l e R s m args below meth c H locs 0 0 Q (F0 m (pc + 3) ls (.ref (ad 50) :: rest))) : W p l e R s m args below meth c H locs 0 0 Q (F0 m pc ls (.ref (ad 0) :: rest)) :=
  va_get (D := D) (ci := 12) (C := RX12) (T := TX12) (N := 98) F.1 F.2.1 F.2.2.2.2 (fun w h => List.mem_cons_of_mem _ (inG_X12 w h)) F.2.2.2.1 K Z.1 0 rfl rfl 84 (by decide) (F.2.2.2.2 _ (List.mem_cons_of_mem _ wd1286)) (fun _ h => h) rfl hd kk
theorem gmX12_472 (F : CallFix p m c cc nL s args (cw :: Gw) RX12) (K : va_K D vwCl (tyL cy) s) (Z : ZG D (wM ad cy st) A s H locs) (hd : decode cc pc = .ok (.getfield 472, 3)) (kk : W p l e R s m args below meth c H locs 0 0 Q (F0 m (pc + 3) ls (.int (st.1 35) :: rest))) : W p l e R s m args below meth c H locs 0 0 Q (F0 m pc ls (.ref (ad 0) :: rest)) :=
  va_get (D := D) (ci := 12) (C := RX12) (T := TX12) (N := 98) F.1 F.2.1 F.2.2.2.2 (fun w h => List.mem_cons_of_mem _ (inG_X12 w h)) F.2.2.2.1 K Z.1 0 rfl rfl 88 (by decide) (F.2.2.2.2 _ (List.mem_cons_of_mem _ wd1287)) (fun _ h => h) rfl hd kk
theorem ms50 {i : Int32} {v : Int32} (F : CallFix p m c cc nL s args (cw :: Gw) own) (K : va_K D vwCl (tyL cy) s) (Z : ZG D (wM ad cy st) A s H locs) (hi : inB i 3300 = true) (hd : decode cc pc = .ok (.iastore, 1)) (kk : ∀ (H1 : Heap) (locs1 : List Loc), ZG D (wM ad cy (uA st 49 i v)) A s H1 locs1 → W p l e R s m args below meth c H1 locs1 0 0 Q (F0 m (pc + 1) ls rest)) : W p l e R s m args below meth c H locs 0 0 Q (F0 m pc ls (.int v :: .int i :: .ref (ad 50) :: rest)) :=
  va_iast F.1 F.2.1 K Z.1 Z.2.1 Z.2.2 50 1 rfl rfl (inB_vp hi) hd (fun H1 locs1 hP hD hS => kk H1 locs1 ⟨hP, hD, hS⟩)
theorem gmX12_169 (F : CallFix p m c cc nL s args (cw :: Gw) RX12) (K : va_K D vwCl (tyL cy) s) (Z : ZG D (wM ad cy st) A s H locs) (hd : decode cc pc = .ok (.getfield 169, 3)) (kk : W p l e R s m args below meth c H locs 0 0 Q (F0 m (pc + 3) ls (.ref (ad 51) :: rest))) : W p l e R s m args below meth c H locs 0 0 Q (F0 m pc ls (.ref (ad 0) :: rest)) :=
  va_get (D := D) (ci := 12) (C := RX12) (T := TX12) (N := 98) F.1 F.2.1 F.2.2.2.2 (fun w h => List.mem_cons_of_mem _ (inG_X12 w h)) F.2.2.2.1 K Z.1 0 rfl rfl 85 (by decide) (F.2.2.2.2 _ (List.mem_cons_of_mem _ wd1288)) (fun _ h => h) rfl hd kk
theorem ms51 {i : Int32} {v : Int32} (F : CallFix p m c cc nL s args (cw :: Gw) own) (K : va_K D vwCl (tyL cy) s) (Z : ZG D (wM ad cy st) A s H locs) (hi : inB i 3300 = true) (hd : decode cc pc = .ok (.iastore, 1)) (kk : ∀ (H1 : Heap) (locs1 : List Loc), ZG D (wM ad cy (uA st 50 i v)) A s H1 locs1 → W p l e R s m args below meth c H1 locs1 0 0 Q (F0 m (pc + 1) ls rest)) : W p l e R s m args below meth c H locs 0 0 Q (F0 m pc ls (.int v :: .int i :: .ref (ad 51) :: rest)) :=
  va_iast F.1 F.2.1 K Z.1 Z.2.1 Z.2.2 51 1 rfl rfl (inB_vp hi) hd (fun H1 locs1 hP hD hS => kk H1 locs1 ⟨hP, hD, hS⟩)
theorem gmX12_172 (F : CallFix p m c cc nL s args (cw :: Gw) RX12) (K : va_K D vwCl (tyL cy) s) (Z : ZG D (wM ad cy st) A s H locs) (hd : decode cc pc = .ok (.getfield 172, 3)) (kk : W p l e R s m args below meth c H locs 0 0 Q (F0 m (pc + 3) ls (.ref (ad 52) :: rest))) : W p l e R s m args below meth c H locs 0 0 Q (F0 m pc ls (.ref (ad 0) :: rest)) :=
  va_get (D := D) (ci := 12) (C := RX12) (T := TX12) (N := 98) F.1 F.2.1 F.2.2.2.2 (fun w h => List.mem_cons_of_mem _ (inG_X12 w h)) F.2.2.2.1 K Z.1 0 rfl rfl 86 (by decide) (F.2.2.2.2 _ (List.mem_cons_of_mem _ wd1289)) (fun _ h => h) rfl hd kk
theorem ms52 {i : Int32} {v : Int32} (F : CallFix p m c cc nL s args (cw :: Gw) own) (K : va_K D vwCl (tyL cy) s) (Z : ZG D (wM ad cy st) A s H locs) (hi : inB i 3300 = true) (hd : decode cc pc = .ok (.iastore, 1)) (kk : ∀ (H1 : Heap) (locs1 : List Loc), ZG D (wM ad cy (uA st 51 i v)) A s H1 locs1 → W p l e R s m args below meth c H1 locs1 0 0 Q (F0 m (pc + 1) ls rest)) : W p l e R s m args below meth c H locs 0 0 Q (F0 m pc ls (.int v :: .int i :: .ref (ad 52) :: rest)) :=
  va_iast F.1 F.2.1 K Z.1 Z.2.1 Z.2.2 52 1 rfl rfl (inB_vp hi) hd (fun H1 locs1 hP hD hS => kk H1 locs1 ⟨hP, hD, hS⟩)
theorem pmX12_472 {v : Int32} (F : CallFix p m c cc nL s args (cw :: Gw) RX12) (K : va_K D vwCl (tyL cy) s) (Z : ZG D (wM ad cy st) A s H locs) (hd : decode cc pc = .ok (.putfield 472, 3)) (kk : ∀ (H1 : Heap) (locs1 : List Loc), ZG D (wM ad cy (uF st 35 v)) A s H1 locs1 → W p l e R s m args below meth c H1 locs1 0 0 Q (F0 m (pc + 3) ls rest)) : W p l e R s m args below meth c H locs 0 0 Q (F0 m pc ls (.int v :: .ref (ad 0) :: rest)) :=
  va_put (D := D) (ci := 12) (v := .int v) (ty := .int) (C := RX12) (T := TX12) (N := 98) F.1 F.2.1 F.2.2.2.2 (fun w h => List.mem_cons_of_mem _ (inG_X12 w h)) tyX12 tyX12_ok nmX12 F.2.2.2.1 K Z.1 Z.2.1 Z.2.2 0 rfl rfl 88 (by decide) (F.2.2.2.2 _ (List.mem_cons_of_mem _ wd1287)) (fun _ h => h) rfl (by decide +kernel) rfl rfl (Nat.le_of_ble_eq_true rfl) hd (fun H1 locs1 hP hD hS => kk H1 locs1 ⟨hP, hD, hS⟩)
end
set_option maxRecDepth 100000 in
set_option maxHeartbeats 4000000 in
theorem c_X12_askOf {l : Launch} {D : va_G} {ad : Nat → Nat} {cy : Nat → ClassId} {ee : EE} {n : Nat} {st : StT} {x1 : Int32} {x2 : Int32} {res : (Int32 × StT)} (hf : f_X12_askOf n st x1 x2 = some res) : CT l yX12_askOf cX12_askOf 3 (some .int) 0 0 D cy ee (wM ad cy st) (wM ad cy res.2) [.ref (ad 0), .int x1, .int x2] (some (.int res.1)) := by
  refine CT.of (by decide +kernel) (Nat.le_of_ble_eq_true rfl) ?_
  intro p e s m args below meth c A F hr hk K E hA Z ls hl
  have hl : lv_has ls 3 [(0, .ref (ad 0)), (1, .int x1), (2, .int x2)] := hl
  have hx := F.1
  have hb := F.2.1
  unfold f_X12_askOf at hf
  refine lv_aload_n hx hb dX12_askOf_0 rfl (lv_at hl 0 rfl) ?_
  refine gmX12_166 F K Z dX12_askOf_1 ?_
  refine lv_aload_n hx hb dX12_askOf_4 rfl (lv_at hl 0 rfl) ?_
  refine gmX12_472 F K Z dX12_askOf_5 ?_
  refine lv_iload_n hx hb dX12_askOf_8 rfl (lv_at hl 1 rfl) ?_
  obtain ⟨i9, hf⟩ := if_some hf
  refine ms50 F K Z i9 dX12_askOf_9 (fun H locs Z => ?_)
  refine lv_aload_n hx hb dX12_askOf_10 rfl (lv_at hl 0 rfl) ?_
  refine gmX12_169 F K Z dX12_askOf_11 ?_
  refine lv_aload_n hx hb dX12_askOf_14 rfl (lv_at hl 0 rfl) ?_
  refine gmX12_472 F K Z dX12_askOf_15 ?_
  refine lv_iload_n hx hb dX12_askOf_18 rfl (lv_at hl 2 rfl) ?_
  obtain ⟨i19, hf⟩ := if_some hf
  refine ms51 F K Z i19 dX12_askOf_19 (fun H locs Z => ?_)
  refine lv_aload_n hx hb dX12_askOf_20 rfl (lv_at hl 0 rfl) ?_
  refine gmX12_172 F K Z dX12_askOf_21 ?_
  refine lv_aload_n hx hb dX12_askOf_24 rfl (lv_at hl 0 rfl) ?_
  refine gmX12_472 F K Z dX12_askOf_25 ?_
  refine lv_iconst (v := 0) hx hb dX12_askOf_28 (by decide) ?_
  obtain ⟨i29, hf⟩ := if_some hf
  refine ms52 F K Z i29 dX12_askOf_29 (fun H locs Z => ?_)
  refine lv_aload_n hx hb dX12_askOf_30 rfl (lv_at hl 0 rfl) ?_
  refine lv_dup hx hb dX12_askOf_31 rfl ?_
  refine gmX12_472 F K Z dX12_askOf_32 ?_
  refine lv_iconst (v := 1) hx hb dX12_askOf_35 (by decide) ?_
  refine lv_iadd hx hb dX12_askOf_36 ?_
  refine pmX12_472 F K Z dX12_askOf_37 (fun H locs Z => ?_)
  refine lv_bipush (v := -2) hx hb dX12_askOf_40 (by decide) ?_
  have hf := Option.some.inj hf
  subst hf
  exact ret_i F hr hk Z dX12_askOf_42
def f_X12_cases (n : Nat) (st : StT) (x1 : Int32) (x2 : Int32) (x3 : Int32) (x4 : Int32) (x5 : Int32) : Option (Int32 × StT) := if x4 = 0 then (if inB x2 1600 = true then ((f_X12_askOf n st (st.2.1 42 (x2).toNatClampNeg) (-1 : Int32)).bind fun q13 => (some (q13.1, q13.2))) else none) else (if x4 = (1 : Int32) then (if x5 < 0 then (some ((0 : Int32), st)) else (if inB x5 4200 = true then (if (st.2.1 0 (x5).toNatClampNeg) = (4 : Int32) then (if inB x1 3300 = true then (if inB x2 1600 = true then (if inB x5 4200 = true then (if inB ((uA st 52 x1 x5).2.1 41 (x2).toNatClampNeg) 80 = true then (if inB x2 1600 = true then ((f_X12_askOf n (uA (uA st 52 x1 x5) 48 ((uA st 52 x1 x5).2.1 41 (x2).toNatClampNeg) ((uA st 52 x1 x5).2.1 1 (x5).toNatClampNeg)) ((uA (uA st 52 x1 x5) 48 ((uA st 52 x1 x5).2.1 41 (x2).toNatClampNeg) ((uA st 52 x1 x5).2.1 1 (x5).toNatClampNeg)).2.1 43 (x2).toNatClampNeg) x3).bind fun q75 => (some (q75.1, q75.2))) else none) else none) else none) else none) else none) else (some ((0 : Int32), st))) else none)) else (if x4 = (2 : Int32) then (if x5 = (1 : Int32) then (if inB x2 1600 = true then (if inB x1 3300 = true then (if inB (st.2.1 52 (x1).toNatClampNeg) 4200 = true then (if inB (st.2.1 41 (x2).toNatClampNeg) 80 = true then (if inB x2 1600 = true then ((f_X12_askOf n (uA st 48 (st.2.1 41 (x2).toNatClampNeg) (st.2.1 2 ((st.2.1 52 (x1).toNatClampNeg)).toNatClampNeg)) ((uA st 48 (st.2.1 41 (x2).toNatClampNeg) (st.2.1 2 ((st.2.1 52 (x1).toNatClampNeg)).toNatClampNeg)).2.1 44 (x2).toNatClampNeg) x3).bind fun q121 => (some (q121.1, q121.2))) else none) else none) else none) else none) else none) else (some (x5, st))) else (some (x5, st))))
theorem wd1290 : Cond.fieldLink RX12 163 "WorldProverModel" "hypothesisOf" "[I" ∈ Gw := gT6 (List.mem_of_getElem? (i := 141) rfl) rfl
theorem wd1291 : Cond.fieldLink RX12 175 "WorldProverModel" "askHeld" "[I" ∈ Gw := gT6 (List.mem_of_getElem? (i := 145) rfl) rfl
theorem wd1292 : Cond.methodLink RX12 478 yX12_askOf ∈ Gw := gT8 (List.mem_of_getElem? (i := 197) rfl) rfl
theorem wd1293 : Cond.code yX12_askOf prog_14_method_61_code 3 (some .int) ∈ Gw := gT8 (List.mem_of_getElem? (i := 200) rfl) rfl
theorem wd1294 : Cond.instanceMethod yX12_askOf ∈ Gw := gT8 (List.mem_of_getElem? (i := 199) rfl) rfl
theorem wd1295 : Cond.selects RX12 yX12_askOf yX12_askOf ∈ Gw := gP9 (q := (yX12_askOf, 98)) (List.mem_of_getElem? (i := 0) rfl)
section
variable {p : Program} {l : Launch} {e : Env} {R : Room} {s : State} {m : MethodId} {args : Array Value} {below : List Frame} {meth : Method} {c : Code} {H : Heap} {locs : List Loc} {Q : State → Prop}
variable {cc : ByteArray} {nL pc : Nat} {ls : Array Slot} {rest : List Value} {D : va_G} {A : Nat → Prop} {cw : Cond} {ad : Nat → Nat} {cy : Nat → ClassId} {ee : EE} {st : StT} {own : String}
theorem ml50 {i : Int32} (F : CallFix p m c cc nL s args (cw :: Gw) own) (K : va_K D vwCl (tyL cy) s) (Z : ZG D (wM ad cy st) A s H locs) (hi : inB i 3300 = true) (hd : decode cc pc = .ok (.iaload, 1)) (kk : W p l e R s m args below meth c H locs 0 0 Q (F0 m (pc + 1) ls (.int (st.2.1 49 i.toNatClampNeg) :: rest))) : W p l e R s m args below meth c H locs 0 0 Q (F0 m pc ls (.int i :: .ref (ad 50) :: rest)) :=
  va_iald F.1 F.2.1 K Z.1 50 1 rfl rfl (inB_vp hi) hd kk
theorem ml51 {i : Int32} (F : CallFix p m c cc nL s args (cw :: Gw) own) (K : va_K D vwCl (tyL cy) s) (Z : ZG D (wM ad cy st) A s H locs) (hi : inB i 3300 = true) (hd : decode cc pc = .ok (.iaload, 1)) (kk : W p l e R s m args below meth c H locs 0 0 Q (F0 m (pc + 1) ls (.int (st.2.1 50 i.toNatClampNeg) :: rest))) : W p l e R s m args below meth c H locs 0 0 Q (F0 m pc ls (.int i :: .ref (ad 51) :: rest)) :=
  va_iald F.1 F.2.1 K Z.1 51 1 rfl rfl (inB_vp hi) hd kk
theorem ml52 {i : Int32} (F : CallFix p m c cc nL s args (cw :: Gw) own) (K : va_K D vwCl (tyL cy) s) (Z : ZG D (wM ad cy st) A s H locs) (hi : inB i 3300 = true) (hd : decode cc pc = .ok (.iaload, 1)) (kk : W p l e R s m args below meth c H locs 0 0 Q (F0 m (pc + 1) ls (.int (st.2.1 51 i.toNatClampNeg) :: rest))) : W p l e R s m args below meth c H locs 0 0 Q (F0 m pc ls (.int i :: .ref (ad 52) :: rest)) :=
  va_iald F.1 F.2.1 K Z.1 52 1 rfl rfl (inB_vp hi) hd kk
theorem gmX12_163 (F : CallFix p m c cc nL s args (cw :: Gw) RX12) (K : va_K D vwCl (tyL cy) s) (Z : ZG D (wM ad cy st) A s H locs) (hd : decode cc pc = .ok (.getfield 163, 3)) (kk : W p l e R s m args below meth c H locs 0 0 Q (F0 m (pc + 3) ls (.ref (ad 49) :: rest))) : W p l e R s m args below meth c H locs 0 0 Q (F0 m pc ls (.ref (ad 0) :: rest)) :=
  va_get (D := D) (ci := 12) (C := RX12) (T := TX12) (N := 98) F.1 F.2.1 F.2.2.2.2 (fun w h => List.mem_cons_of_mem _ (inG_X12 w h)) F.2.2.2.1 K Z.1 0 rfl rfl 83 (by decide) (F.2.2.2.2 _ (List.mem_cons_of_mem _ wd1290)) (fun _ h => h) rfl hd kk
theorem ml43 {i : Int32} (F : CallFix p m c cc nL s args (cw :: Gw) own) (K : va_K D vwCl (tyL cy) s) (Z : ZG D (wM ad cy st) A s H locs) (hi : inB i 1600 = true) (hd : decode cc pc = .ok (.iaload, 1)) (kk : W p l e R s m args below meth c H locs 0 0 Q (F0 m (pc + 1) ls (.int (st.2.1 42 i.toNatClampNeg) :: rest))) : W p l e R s m args below meth c H locs 0 0 Q (F0 m pc ls (.int i :: .ref (ad 43) :: rest)) :=
  va_iald F.1 F.2.1 K Z.1 43 1 rfl rfl (inB_vp hi) hd kk
theorem ml49 {i : Int32} (F : CallFix p m c cc nL s args (cw :: Gw) own) (K : va_K D vwCl (tyL cy) s) (Z : ZG D (wM ad cy st) A s H locs) (hi : inB i 80 = true) (hd : decode cc pc = .ok (.iaload, 1)) (kk : W p l e R s m args below meth c H locs 0 0 Q (F0 m (pc + 1) ls (.int (st.2.1 48 i.toNatClampNeg) :: rest))) : W p l e R s m args below meth c H locs 0 0 Q (F0 m pc ls (.int i :: .ref (ad 49) :: rest)) :=
  va_iald F.1 F.2.1 K Z.1 49 1 rfl rfl (inB_vp hi) hd kk
theorem ml45 {i : Int32} (F : CallFix p m c cc nL s args (cw :: Gw) own) (K : va_K D vwCl (tyL cy) s) (Z : ZG D (wM ad cy st) A s H locs) (hi : inB i 1600 = true) (hd : decode cc pc = .ok (.iaload, 1)) (kk : W p l e R s m args below meth c H locs 0 0 Q (F0 m (pc + 1) ls (.int (st.2.1 44 i.toNatClampNeg) :: rest))) : W p l e R s m args below meth c H locs 0 0 Q (F0 m pc ls (.int i :: .ref (ad 45) :: rest)) :=
  va_iald F.1 F.2.1 K Z.1 45 1 rfl rfl (inB_vp hi) hd kk
theorem ml42 {i : Int32} (F : CallFix p m c cc nL s args (cw :: Gw) own) (K : va_K D vwCl (tyL cy) s) (Z : ZG D (wM ad cy st) A s H locs) (hi : inB i 1600 = true) (hd : decode cc pc = .ok (.iaload, 1)) (kk : W p l e R s m args below meth c H locs 0 0 Q (F0 m (pc + 1) ls (.int (st.2.1 41 i.toNatClampNeg) :: rest))) : W p l e R s m args below meth c H locs 0 0 Q (F0 m pc ls (.int i :: .ref (ad 42) :: rest)) :=
  va_iald F.1 F.2.1 K Z.1 42 1 rfl rfl (inB_vp hi) hd kk
theorem ms49 {i : Int32} {v : Int32} (F : CallFix p m c cc nL s args (cw :: Gw) own) (K : va_K D vwCl (tyL cy) s) (Z : ZG D (wM ad cy st) A s H locs) (hi : inB i 80 = true) (hd : decode cc pc = .ok (.iastore, 1)) (kk : ∀ (H1 : Heap) (locs1 : List Loc), ZG D (wM ad cy (uA st 48 i v)) A s H1 locs1 → W p l e R s m args below meth c H1 locs1 0 0 Q (F0 m (pc + 1) ls rest)) : W p l e R s m args below meth c H locs 0 0 Q (F0 m pc ls (.int v :: .int i :: .ref (ad 49) :: rest)) :=
  va_iast F.1 F.2.1 K Z.1 Z.2.1 Z.2.2 49 1 rfl rfl (inB_vp hi) hd (fun H1 locs1 hP hD hS => kk H1 locs1 ⟨hP, hD, hS⟩)
theorem ml44 {i : Int32} (F : CallFix p m c cc nL s args (cw :: Gw) own) (K : va_K D vwCl (tyL cy) s) (Z : ZG D (wM ad cy st) A s H locs) (hi : inB i 1600 = true) (hd : decode cc pc = .ok (.iaload, 1)) (kk : W p l e R s m args below meth c H locs 0 0 Q (F0 m (pc + 1) ls (.int (st.2.1 43 i.toNatClampNeg) :: rest))) : W p l e R s m args below meth c H locs 0 0 Q (F0 m pc ls (.int i :: .ref (ad 44) :: rest)) :=
  va_iald F.1 F.2.1 K Z.1 44 1 rfl rfl (inB_vp hi) hd kk
theorem gmX12_175 (F : CallFix p m c cc nL s args (cw :: Gw) RX12) (K : va_K D vwCl (tyL cy) s) (Z : ZG D (wM ad cy st) A s H locs) (hd : decode cc pc = .ok (.getfield 175, 3)) (kk : W p l e R s m args below meth c H locs 0 0 Q (F0 m (pc + 3) ls (.ref (ad 53) :: rest))) : W p l e R s m args below meth c H locs 0 0 Q (F0 m pc ls (.ref (ad 0) :: rest)) :=
  va_get (D := D) (ci := 12) (C := RX12) (T := TX12) (N := 98) F.1 F.2.1 F.2.2.2.2 (fun w h => List.mem_cons_of_mem _ (inG_X12 w h)) F.2.2.2.1 K Z.1 0 rfl rfl 87 (by decide) (F.2.2.2.2 _ (List.mem_cons_of_mem _ wd1291)) (fun _ h => h) rfl hd kk
theorem ml53 {i : Int32} (F : CallFix p m c cc nL s args (cw :: Gw) own) (K : va_K D vwCl (tyL cy) s) (Z : ZG D (wM ad cy st) A s H locs) (hi : inB i 3300 = true) (hd : decode cc pc = .ok (.iaload, 1)) (kk : W p l e R s m args below meth c H locs 0 0 Q (F0 m (pc + 1) ls (.int (st.2.1 52 i.toNatClampNeg) :: rest))) : W p l e R s m args below meth c H locs 0 0 Q (F0 m pc ls (.int i :: .ref (ad 53) :: rest)) :=
  va_iald F.1 F.2.1 K Z.1 53 1 rfl rfl (inB_vp hi) hd kk
theorem ms53 {i : Int32} {v : Int32} (F : CallFix p m c cc nL s args (cw :: Gw) own) (K : va_K D vwCl (tyL cy) s) (Z : ZG D (wM ad cy st) A s H locs) (hi : inB i 3300 = true) (hd : decode cc pc = .ok (.iastore, 1)) (kk : ∀ (H1 : Heap) (locs1 : List Loc), ZG D (wM ad cy (uA st 52 i v)) A s H1 locs1 → W p l e R s m args below meth c H1 locs1 0 0 Q (F0 m (pc + 1) ls rest)) : W p l e R s m args below meth c H locs 0 0 Q (F0 m pc ls (.int v :: .int i :: .ref (ad 53) :: rest)) :=
  va_iast F.1 F.2.1 K Z.1 Z.2.1 Z.2.2 53 1 rfl rfl (inB_vp hi) hd (fun H1 locs1 hP hD hS => kk H1 locs1 ⟨hP, hD, hS⟩)
theorem krX12_478_X12_askOf {n : Nat} {a0 : Int32} {a1 : Int32} {q : (Int32 × StT)} (F : CallFix p m c cc nL s args (cw :: Gw) RX12) (K : va_K D vwCl (tyL cy) s) (E : EV ee A s s.heap) (hA : ∀ q, s.heap.size ≤ q → A q) (Z : ZG D (wM ad cy st) A s H locs) (hf : f_X12_askOf n st a0 a1 = some q) (hR : 1 ≤ R.frames ∧ 22 ≤ R.locals) (hl : ls.size = nL) (hst : (rest.map fun v => v.category).sum ≤ 8) (hd : decode cc pc = .ok (.invokevirtual 478, 3)) (kk : ∀ (H1 : Heap) (locs1 : List Loc), ZG D (wM ad cy q.2) A s H1 locs1 → W p l e R s m args below meth c H1 locs1 0 0 Q (F0 m (pc + 3) ls (.int q.1 :: rest))) : W p l e R s m args below meth c H locs 0 0 Q (F0 m pc ls (.int a1 :: .int a0 :: .ref (ad 0) :: rest)) :=
  call_V (q := (RX12, TX12, 98)) (n := 2) (As := [.int a0, .int a1]) (rv := some (.int q.1)) 0 12 F K E hA Z (c_X12_askOf (l := l) (D := D) (ad := ad) (cy := cy) (ee := ee) hf) ⟨wd1293, wd1292, wd1294, wd1295, wd1008⟩ (by decide +kernel) rfl rfl hR rfl hl hst hd kk
end
set_option maxRecDepth 100000 in
set_option maxHeartbeats 4000000 in
theorem c_X12_cases {l : Launch} {D : va_G} {ad : Nat → Nat} {cy : Nat → ClassId} {ee : EE} {n : Nat} {st : StT} {x1 : Int32} {x2 : Int32} {x3 : Int32} {x4 : Int32} {x5 : Int32} {res : (Int32 × StT)} (hf : f_X12_cases n st x1 x2 x3 x4 x5 = some res) : CT l yX12_cases cX12_cases 6 (some .int) 1 22 D cy ee (wM ad cy st) (wM ad cy res.2) [.ref (ad 0), .int x1, .int x2, .int x3, .int x4, .int x5] (some (.int res.1)) := by
  refine CT.of (by decide +kernel) (Nat.le_of_ble_eq_true rfl) ?_
  intro p e s m args below meth c A F hr hk K E hA Z ls hl
  have hl : lv_has ls 6 [(0, .ref (ad 0)), (1, .int x1), (2, .int x2), (3, .int x3), (4, .int x4), (5, .int x5)] := hl
  have hx := F.1
  have hb := F.2.1
  unfold f_X12_cases at hf
  refine lv_iload hx hb dX12_cases_0 (lv_at hl 4 rfl) ?_
  refine lv_if_ne (tgt := 17) hx hb dX12_cases_2 (by decide) (fun c2 => ?_) (fun c2 => ?_)
  · have hf := if_f c2 hf
    refine lv_iload hx hb dX12_cases_17 (lv_at hl 4 rfl) ?_
    refine lv_iconst (v := 1) hx hb dX12_cases_19 (by decide) ?_
    refine lv_icmp_ne (tgt := 79) hx hb dX12_cases_20 (by decide) (fun c20 => ?_) (fun c20 => ?_)
    · have hf := if_f c20 hf
      refine lv_iload hx hb dX12_cases_79 (lv_at hl 4 rfl) ?_
      refine lv_iconst (v := 2) hx hb dX12_cases_81 (by decide) ?_
      refine lv_icmp_ne (tgt := 125) hx hb dX12_cases_82 (by decide) (fun c82 => ?_) (fun c82 => ?_)
      · have hf := if_f c82 hf
        refine lv_iload hx hb dX12_cases_125 (lv_at hl 5 rfl) ?_
        have hf := Option.some.inj hf
        subst hf
        exact ret_i F hr hk Z dX12_cases_127
      have hf := if_t c82 hf
      refine lv_iload hx hb dX12_cases_85 (lv_at hl 5 rfl) ?_
      refine lv_iconst (v := 1) hx hb dX12_cases_87 (by decide) ?_
      refine lv_icmp_ne (tgt := 125) hx hb dX12_cases_88 (by decide) (fun c88 => ?_) (fun c88 => ?_)
      · have hf := if_f c88 hf
        refine lv_iload hx hb dX12_cases_125 (lv_at hl 5 rfl) ?_
        have hf := Option.some.inj hf
        subst hf
        exact ret_i F hr hk Z dX12_cases_127
      have hf := if_t c88 hf
      refine lv_aload_n hx hb dX12_cases_91 rfl (lv_at hl 0 rfl) ?_
      refine gmX12_163 F K Z dX12_cases_92 ?_
      refine lv_aload_n hx hb dX12_cases_95 rfl (lv_at hl 0 rfl) ?_
      refine gmX12_142 F K Z dX12_cases_96 ?_
      refine lv_iload_n hx hb dX12_cases_99 rfl (lv_at hl 2 rfl) ?_
      obtain ⟨i100, hf⟩ := if_some hf
      refine ml42 F K Z i100 dX12_cases_100 ?_
      refine lv_aload_n hx hb dX12_cases_101 rfl (lv_at hl 0 rfl) ?_
      refine gmX12_16 F K Z dX12_cases_102 ?_
      refine lv_aload_n hx hb dX12_cases_105 rfl (lv_at hl 0 rfl) ?_
      refine gmX12_175 F K Z dX12_cases_106 ?_
      refine lv_iload_n hx hb dX12_cases_109 rfl (lv_at hl 1 rfl) ?_
      obtain ⟨i110, hf⟩ := if_some hf
      refine ml53 F K Z i110 dX12_cases_110 ?_
      obtain ⟨i111, hf⟩ := if_some hf
      refine ml3 F K Z i111 dX12_cases_111 ?_
      obtain ⟨i112, hf⟩ := if_some hf
      refine ms49 F K Z i112 dX12_cases_112 (fun H locs Z => ?_)
      refine lv_aload_n hx hb dX12_cases_113 rfl (lv_at hl 0 rfl) ?_
      refine lv_aload_n hx hb dX12_cases_114 rfl (lv_at hl 0 rfl) ?_
      refine gmX12_151 F K Z dX12_cases_115 ?_
      refine lv_iload_n hx hb dX12_cases_118 rfl (lv_at hl 2 rfl) ?_
      obtain ⟨i119, hf⟩ := if_some hf
      refine ml45 F K Z i119 dX12_cases_119 ?_
      refine lv_iload_n hx hb dX12_cases_120 rfl (lv_at hl 3 rfl) ?_
      obtain ⟨q121, h121, hf⟩ := bind_some hf
      refine krX12_478_X12_askOf F K E hA Z h121 ⟨Nat.le_of_ble_eq_true rfl, Nat.le_of_ble_eq_true rfl⟩ hl.1 (Nat.le_of_ble_eq_true rfl) dX12_cases_121 (fun H locs Z => ?_)
      have hf := Option.some.inj hf
      subst hf
      exact ret_i F hr hk Z dX12_cases_124
    have hf := if_t c20 hf
    refine lv_iload hx hb dX12_cases_23 (lv_at hl 5 rfl) ?_
    refine lv_if_lt (tgt := 39) hx hb dX12_cases_25 (by decide) (fun c25 => ?_) (fun c25 => ?_)
    · have hf := if_t c25 hf
      refine lv_iconst (v := 0) hx hb dX12_cases_39 (by decide) ?_
      have hf := Option.some.inj hf
      subst hf
      exact ret_i F hr hk Z dX12_cases_40
    have hf := if_f c25 hf
    refine lv_aload_n hx hb dX12_cases_28 rfl (lv_at hl 0 rfl) ?_
    refine gmX12_7 F K Z dX12_cases_29 ?_
    refine lv_iload hx hb dX12_cases_32 (lv_at hl 5 rfl) ?_
    obtain ⟨i34, hf⟩ := if_some hf
    refine ml1 F K Z i34 dX12_cases_34 ?_
    refine lv_iconst (v := 4) hx hb dX12_cases_35 (by decide) ?_
    refine lv_icmp_eq (tgt := 41) hx hb dX12_cases_36 (by decide) (fun c36 => ?_) (fun c36 => ?_)
    · have hf := if_t c36 hf
      refine lv_aload_n hx hb dX12_cases_41 rfl (lv_at hl 0 rfl) ?_
      refine gmX12_175 F K Z dX12_cases_42 ?_
      refine lv_iload_n hx hb dX12_cases_45 rfl (lv_at hl 1 rfl) ?_
      refine lv_iload hx hb dX12_cases_46 (lv_at hl 5 rfl) ?_
      obtain ⟨i48, hf⟩ := if_some hf
      refine ms53 F K Z i48 dX12_cases_48 (fun H locs Z => ?_)
      refine lv_aload_n hx hb dX12_cases_49 rfl (lv_at hl 0 rfl) ?_
      refine gmX12_163 F K Z dX12_cases_50 ?_
      refine lv_aload_n hx hb dX12_cases_53 rfl (lv_at hl 0 rfl) ?_
      refine gmX12_142 F K Z dX12_cases_54 ?_
      refine lv_iload_n hx hb dX12_cases_57 rfl (lv_at hl 2 rfl) ?_
      obtain ⟨i58, hf⟩ := if_some hf
      refine ml42 F K Z i58 dX12_cases_58 ?_
      refine lv_aload_n hx hb dX12_cases_59 rfl (lv_at hl 0 rfl) ?_
      refine gmX12_13 F K Z dX12_cases_60 ?_
      refine lv_iload hx hb dX12_cases_63 (lv_at hl 5 rfl) ?_
      obtain ⟨i65, hf⟩ := if_some hf
      refine ml2 F K Z i65 dX12_cases_65 ?_
      obtain ⟨i66, hf⟩ := if_some hf
      refine ms49 F K Z i66 dX12_cases_66 (fun H locs Z => ?_)
      refine lv_aload_n hx hb dX12_cases_67 rfl (lv_at hl 0 rfl) ?_
      refine lv_aload_n hx hb dX12_cases_68 rfl (lv_at hl 0 rfl) ?_
      refine gmX12_148 F K Z dX12_cases_69 ?_
      refine lv_iload_n hx hb dX12_cases_72 rfl (lv_at hl 2 rfl) ?_
      obtain ⟨i73, hf⟩ := if_some hf
      refine ml44 F K Z i73 dX12_cases_73 ?_
      refine lv_iload_n hx hb dX12_cases_74 rfl (lv_at hl 3 rfl) ?_
      obtain ⟨q75, h75, hf⟩ := bind_some hf
      refine krX12_478_X12_askOf F K E hA Z h75 ⟨Nat.le_of_ble_eq_true rfl, Nat.le_of_ble_eq_true rfl⟩ hl.1 (Nat.le_of_ble_eq_true rfl) dX12_cases_75 (fun H locs Z => ?_)
      have hf := Option.some.inj hf
      subst hf
      exact ret_i F hr hk Z dX12_cases_78
    have hf := if_f c36 hf
    refine lv_iconst (v := 0) hx hb dX12_cases_39 (by decide) ?_
    have hf := Option.some.inj hf
    subst hf
    exact ret_i F hr hk Z dX12_cases_40
  have hf := if_t c2 hf
  refine lv_aload_n hx hb dX12_cases_5 rfl (lv_at hl 0 rfl) ?_
  refine lv_aload_n hx hb dX12_cases_6 rfl (lv_at hl 0 rfl) ?_
  refine gmX12_145 F K Z dX12_cases_7 ?_
  refine lv_iload_n hx hb dX12_cases_10 rfl (lv_at hl 2 rfl) ?_
  obtain ⟨i11, hf⟩ := if_some hf
  refine ml43 F K Z i11 dX12_cases_11 ?_
  refine lv_iconst (v := -1) hx hb dX12_cases_12 (by decide) ?_
  obtain ⟨q13, h13, hf⟩ := bind_some hf
  refine krX12_478_X12_askOf F K E hA Z h13 ⟨Nat.le_of_ble_eq_true rfl, Nat.le_of_ble_eq_true rfl⟩ hl.1 (Nat.le_of_ble_eq_true rfl) dX12_cases_13 (fun H locs Z => ?_)
  have hf := Option.some.inj hf
  subst hf
  exact ret_i F hr hk Z dX12_cases_16
def f_X12_has_12 (n : Nat) (st : StT) (x1 : Int32) (x2 : Int32) (x3 : Int32) (x4 : Int32) (x5 : Int32) : Option (Int32 × StT) := if x3 = 65 then (if x4 = 0 then (if inB x2 1600 = true then ((f_X12_askOf n st (st.2.1 42 (x2).toNatClampNeg) (-1 : Int32)).bind fun q240 => (some (q240.1, q240.2))) else none) else (if x4 = (1 : Int32) then (if inB x1 3300 = true then (if inB x5 4200 = true then (if ((uA st 52 x1 x5).2.1 0 (x5).toNatClampNeg) = (5 : Int32) then (if inB x2 1600 = true then (if inB x5 4200 = true then ((f_X12_askOf n (uA st 52 x1 x5) ((uA st 52 x1 x5).2.1 43 (x2).toNatClampNeg) ((uA st 52 x1 x5).2.1 1 (x5).toNatClampNeg)).bind fun q283 => (some (q283.1, q283.2))) else none) else none) else (some ((-1 : Int32), (uA st 52 x1 x5)))) else none) else none) else (if x5 = (1 : Int32) then (if inB x1 3300 = true then (if inB (st.2.1 52 (x1).toNatClampNeg) 4200 = true then (some ((st.2.1 2 ((st.2.1 52 (x1).toNatClampNeg)).toNatClampNeg), st)) else none) else none) else (some ((-1 : Int32), st))))) else (if x3 = 70 then (if x4 = 0 then (if inB x2 1600 = true then ((f_X12_askOf n st (st.2.1 42 (x2).toNatClampNeg) (-1 : Int32)).bind fun q326 => (some (q326.1, q326.2))) else none) else (if inB x5 4200 = true then (if (st.2.1 0 (x5).toNatClampNeg) = (3 : Int32) then (if x3 = (70 : Int32) then (if inB x5 4200 = true then (some ((st.2.1 1 (x5).toNatClampNeg), st)) else none) else (if inB x5 4200 = true then (some ((st.2.1 2 (x5).toNatClampNeg), st)) else none)) else (some ((-1 : Int32), st))) else none)) else (if x3 = 72 then (if inB x2 1600 = true then (if inB (st.2.1 42 (x2).toNatClampNeg) 80 = true then (some ((st.2.1 48 ((st.2.1 42 (x2).toNatClampNeg)).toNatClampNeg), st)) else none) else none) else (if x3 = 76 then (if x4 = 0 then (if inB x2 1600 = true then (if inB x2 1600 = true then (if inB (st.2.1 41 (x2).toNatClampNeg) 80 = true then (if inB x2 1600 = true then ((f_X12_askOf n (uA st 48 (st.2.1 41 (x2).toNatClampNeg) (st.2.1 44 (x2).toNatClampNeg)) ((uA st 48 (st.2.1 41 (x2).toNatClampNeg) (st.2.1 44 (x2).toNatClampNeg)).2.1 42 (x2).toNatClampNeg) (-1 : Int32)).bind fun q152 => (some (q152.1, q152.2))) else none) else none) else none) else none) else (if inB x2 1600 = true then ((f_X12_askedFormula n st (5 : Int32) (st.2.1 44 (x2).toNatClampNeg) x5).bind fun q166 => (some (q166.1, q166.2))) else none)) else (if x3 = 80 then (if x4 = 0 then (if inB x2 1600 = true then ((f_X12_askOf n st (st.2.1 42 (x2).toNatClampNeg) (-1 : Int32)).bind fun q183 => (some (q183.1, q183.2))) else none) else (if x4 = (1 : Int32) then (if inB x1 3300 = true then (if inB x2 1600 = true then ((f_X12_askOf n (uA st 52 x1 x5) ((uA st 52 x1 x5).2.1 43 (x2).toNatClampNeg) (-1 : Int32)).bind fun q209 => (some (q209.1, q209.2))) else none) else none) else (if inB x1 3300 = true then ((f_X12_askedFormula n st (3 : Int32) (st.2.1 52 (x1).toNatClampNeg) x5).bind fun q223 => (some (q223.1, q223.2))) else none))) else (if x3 = 83 then (if x4 = 0 then (if inB x2 1600 = true then ((f_X12_askOf n st (st.2.1 42 (x2).toNatClampNeg) (-1 : Int32)).bind fun q326 => (some (q326.1, q326.2))) else none) else (if inB x5 4200 = true then (if (st.2.1 0 (x5).toNatClampNeg) = (3 : Int32) then (if x3 = (70 : Int32) then (if inB x5 4200 = true then (some ((st.2.1 1 (x5).toNatClampNeg), st)) else none) else (if inB x5 4200 = true then (some ((st.2.1 2 (x5).toNatClampNeg), st)) else none)) else (some ((-1 : Int32), st))) else none)) else (if x3 = 84 then (some ((1 : Int32), st)) else (some ((-1 : Int32), st))))))))
def f_X12_has (n : Nat) (st : StT) (x1 : Int32) (x2 : Int32) (x3 : Int32) (x4 : Int32) (x5 : Int32) : Option (Int32 × StT) := if x4 ≤ 0 then (f_X12_has_12 n st x1 x2 x3 x4 x5) else (if 0 ≤ x5 then (f_X12_has_12 n st x1 x2 x3 x4 x5) else (some ((-1 : Int32), st)))
theorem wd1296 : Cond.methodLink RX12 484 yX12_askedFormula ∈ Gw := gT8 (List.mem_of_getElem? (i := 209) rfl) rfl
theorem wd1297 : Cond.code yX12_askedFormula prog_14_method_60_code 6 (some .int) ∈ Gw := gT8 (List.mem_of_getElem? (i := 212) rfl) rfl
theorem wd1298 : Cond.instanceMethod yX12_askedFormula ∈ Gw := gT8 (List.mem_of_getElem? (i := 211) rfl) rfl
theorem wd1299 : Cond.selects RX12 yX12_askedFormula yX12_askedFormula ∈ Gw := gP9 (q := (yX12_askedFormula, 98)) (List.mem_of_getElem? (i := 3) rfl)
section
variable {p : Program} {l : Launch} {e : Env} {R : Room} {s : State} {m : MethodId} {args : Array Value} {below : List Frame} {meth : Method} {c : Code} {H : Heap} {locs : List Loc} {Q : State → Prop}
variable {cc : ByteArray} {nL pc : Nat} {ls : Array Slot} {rest : List Value} {D : va_G} {A : Nat → Prop} {cw : Cond} {ad : Nat → Nat} {cy : Nat → ClassId} {ee : EE} {st : StT} {own : String}
theorem krX12_484_X12_askedFormula {n : Nat} {a0 : Int32} {a1 : Int32} {a2 : Int32} {q : (Int32 × StT)} (F : CallFix p m c cc nL s args (cw :: Gw) RX12) (K : va_K D vwCl (tyL cy) s) (E : EV ee A s s.heap) (hA : ∀ q, s.heap.size ≤ q → A q) (Z : ZG D (wM ad cy st) A s H locs) (hf : f_X12_askedFormula n st a0 a1 a2 = some q) (hR : 2 ≤ R.frames ∧ 49 ≤ R.locals) (hl : ls.size = nL) (hst : (rest.map fun v => v.category).sum ≤ 8) (hd : decode cc pc = .ok (.invokevirtual 484, 3)) (kk : ∀ (H1 : Heap) (locs1 : List Loc), ZG D (wM ad cy q.2) A s H1 locs1 → W p l e R s m args below meth c H1 locs1 0 0 Q (F0 m (pc + 3) ls (.int q.1 :: rest))) : W p l e R s m args below meth c H locs 0 0 Q (F0 m pc ls (.int a2 :: .int a1 :: .int a0 :: .ref (ad 0) :: rest)) :=
  call_V (q := (RX12, TX12, 98)) (n := 3) (As := [.int a0, .int a1, .int a2]) (rv := some (.int q.1)) 0 12 F K E hA Z (c_X12_askedFormula (l := l) (D := D) (ad := ad) (cy := cy) (ee := ee) hf) ⟨wd1297, wd1296, wd1298, wd1299, wd1008⟩ (by decide +kernel) rfl rfl hR rfl hl hst hd kk
end
set_option maxRecDepth 100000 in
set_option maxHeartbeats 4000000 in
theorem b_X12_has_12 {p : Program} {l : Launch} {e : Env} {s : State} {m : MethodId} {args : Array Value} {below : List Frame} {meth : Method} {c : Code} {D : va_G} {A : Nat → Prop} {ad : Nat → Nat} {cy : Nat → ClassId} {ee : EE} {n : Nat} {res : (Int32 × StT)} (F : CallFix p m c cX12_has 6 s args (Cond.code yX12_has cX12_has 6 (some .int) :: Gw) yX12_has.cls) (hr : meth.sig.returnType = (some .int)) (hk : meth.locks = false) (K : va_K D vwCl (tyL cy) s) (E : EV ee A s s.heap) (hA : ∀ q, s.heap.size ≤ q → A q) : ∀ (st : StT) (x1 : Int32) (x2 : Int32) (x3 : Int32) (x4 : Int32) (x5 : Int32), f_X12_has_12 n st x1 x2 x3 x4 x5 = some res → ∀ (H : Heap) (locs : List Loc) (ls : Array Slot), ZG D (wM ad cy st) A s H locs → lv_has ls 6 [(0, .ref (ad 0)), (1, .int x1), (2, .int x2), (3, .int x3), (4, .int x4), (5, .int x5)] → W p l e { frames := 2, cells := 0, slots := 0, locals := 49 } s m args below meth c H locs 0 0 (MQ below (QC D (some (.int res.1)) (wM ad cy res.2) A) args s 0 0 A) (F0 m 12 ls []) := by
  have hx := F.1
  have hb := F.2.1
  intro st x1 x2 x3 x4 x5 hf H locs ls Z hl
  unfold f_X12_has_12 at hf
  refine lv_iload_n hx hb dX12_has_12 rfl (lv_at hl 3 rfl) ?_
  by_cases c13_65 : x3 = 65
  · have hf := if_t c13_65 hf
    refine lv_tableIn (tgt := 227) hx hb dX12_has_13 (by rw [c13_65] <;> decide) (by rw [c13_65] <;> decide) (by rw [c13_65] <;> rfl) (by decide) ?_
    refine lv_iload hx hb dX12_has_227 (lv_at hl 4 rfl) ?_
    refine lv_if_ne (tgt := 244) hx hb dX12_has_229 (by decide) (fun c229 => ?_) (fun c229 => ?_)
    · have hf := if_f c229 hf
      refine lv_iload hx hb dX12_has_244 (lv_at hl 4 rfl) ?_
      refine lv_iconst (v := 1) hx hb dX12_has_246 (by decide) ?_
      refine lv_icmp_ne (tgt := 291) hx hb dX12_has_247 (by decide) (fun c247 => ?_) (fun c247 => ?_)
      · have hf := if_f c247 hf
        refine lv_iload hx hb dX12_has_291 (lv_at hl 5 rfl) ?_
        refine lv_iconst (v := 1) hx hb dX12_has_293 (by decide) ?_
        refine lv_icmp_ne (tgt := 311) hx hb dX12_has_294 (by decide) (fun c294 => ?_) (fun c294 => ?_)
        · have hf := if_f c294 hf
          refine lv_iconst (v := -1) hx hb dX12_has_311 (by decide) ?_
          have hf := Option.some.inj hf
          subst hf
          exact ret_i F hr hk Z dX12_has_312
        have hf := if_t c294 hf
        refine lv_aload_n hx hb dX12_has_297 rfl (lv_at hl 0 rfl) ?_
        refine gmX12_16 F K Z dX12_has_298 ?_
        refine lv_aload_n hx hb dX12_has_301 rfl (lv_at hl 0 rfl) ?_
        refine gmX12_175 F K Z dX12_has_302 ?_
        refine lv_iload_n hx hb dX12_has_305 rfl (lv_at hl 1 rfl) ?_
        obtain ⟨i306, hf⟩ := if_some hf
        refine ml53 F K Z i306 dX12_has_306 ?_
        obtain ⟨i307, hf⟩ := if_some hf
        refine ml3 F K Z i307 dX12_has_307 ?_
        refine lv_goto (tgt := 312) hx hb dX12_has_308 (by decide) ?_
        have hf := Option.some.inj hf
        subst hf
        exact ret_i F hr hk Z dX12_has_312
      have hf := if_t c247 hf
      refine lv_aload_n hx hb dX12_has_250 rfl (lv_at hl 0 rfl) ?_
      refine gmX12_175 F K Z dX12_has_251 ?_
      refine lv_iload_n hx hb dX12_has_254 rfl (lv_at hl 1 rfl) ?_
      refine lv_iload hx hb dX12_has_255 (lv_at hl 5 rfl) ?_
      obtain ⟨i257, hf⟩ := if_some hf
      refine ms53 F K Z i257 dX12_has_257 (fun H locs Z => ?_)
      refine lv_aload_n hx hb dX12_has_258 rfl (lv_at hl 0 rfl) ?_
      refine gmX12_7 F K Z dX12_has_259 ?_
      refine lv_iload hx hb dX12_has_262 (lv_at hl 5 rfl) ?_
      obtain ⟨i264, hf⟩ := if_some hf
      refine ml1 F K Z i264 dX12_has_264 ?_
      refine lv_iconst (v := 5) hx hb dX12_has_265 (by decide) ?_
      refine lv_icmp_ne (tgt := 289) hx hb dX12_has_266 (by decide) (fun c266 => ?_) (fun c266 => ?_)
      · have hf := if_f c266 hf
        refine lv_iconst (v := -1) hx hb dX12_has_289 (by decide) ?_
        have hf := Option.some.inj hf
        subst hf
        exact ret_i F hr hk Z dX12_has_290
      have hf := if_t c266 hf
      refine lv_aload_n hx hb dX12_has_269 rfl (lv_at hl 0 rfl) ?_
      refine lv_aload_n hx hb dX12_has_270 rfl (lv_at hl 0 rfl) ?_
      refine gmX12_148 F K Z dX12_has_271 ?_
      refine lv_iload_n hx hb dX12_has_274 rfl (lv_at hl 2 rfl) ?_
      obtain ⟨i275, hf⟩ := if_some hf
      refine ml44 F K Z i275 dX12_has_275 ?_
      refine lv_aload_n hx hb dX12_has_276 rfl (lv_at hl 0 rfl) ?_
      refine gmX12_13 F K Z dX12_has_277 ?_
      refine lv_iload hx hb dX12_has_280 (lv_at hl 5 rfl) ?_
      obtain ⟨i282, hf⟩ := if_some hf
      refine ml2 F K Z i282 dX12_has_282 ?_
      obtain ⟨q283, h283, hf⟩ := bind_some hf
      refine krX12_478_X12_askOf F K E hA Z h283 ⟨Nat.le_of_ble_eq_true rfl, Nat.le_of_ble_eq_true rfl⟩ hl.1 (Nat.le_of_ble_eq_true rfl) dX12_has_283 (fun H locs Z => ?_)
      refine lv_goto (tgt := 290) hx hb dX12_has_286 (by decide) ?_
      have hf := Option.some.inj hf
      subst hf
      exact ret_i F hr hk Z dX12_has_290
    have hf := if_t c229 hf
    refine lv_aload_n hx hb dX12_has_232 rfl (lv_at hl 0 rfl) ?_
    refine lv_aload_n hx hb dX12_has_233 rfl (lv_at hl 0 rfl) ?_
    refine gmX12_145 F K Z dX12_has_234 ?_
    refine lv_iload_n hx hb dX12_has_237 rfl (lv_at hl 2 rfl) ?_
    obtain ⟨i238, hf⟩ := if_some hf
    refine ml43 F K Z i238 dX12_has_238 ?_
    refine lv_iconst (v := -1) hx hb dX12_has_239 (by decide) ?_
    obtain ⟨q240, h240, hf⟩ := bind_some hf
    refine krX12_478_X12_askOf F K E hA Z h240 ⟨Nat.le_of_ble_eq_true rfl, Nat.le_of_ble_eq_true rfl⟩ hl.1 (Nat.le_of_ble_eq_true rfl) dX12_has_240 (fun H locs Z => ?_)
    have hf := Option.some.inj hf
    subst hf
    exact ret_i F hr hk Z dX12_has_243
  have hf := if_f c13_65 hf
  by_cases c13_70 : x3 = 70
  · have hf := if_t c13_70 hf
    refine lv_tableIn (tgt := 313) hx hb dX12_has_13 (by rw [c13_70] <;> decide) (by rw [c13_70] <;> decide) (by rw [c13_70] <;> rfl) (by decide) ?_
    refine lv_iload hx hb dX12_has_313 (lv_at hl 4 rfl) ?_
    refine lv_if_ne (tgt := 330) hx hb dX12_has_315 (by decide) (fun c315 => ?_) (fun c315 => ?_)
    · have hf := if_f c315 hf
      refine lv_aload_n hx hb dX12_has_330 rfl (lv_at hl 0 rfl) ?_
      refine gmX12_7 F K Z dX12_has_331 ?_
      refine lv_iload hx hb dX12_has_334 (lv_at hl 5 rfl) ?_
      obtain ⟨i336, hf⟩ := if_some hf
      refine ml1 F K Z i336 dX12_has_336 ?_
      refine lv_iconst (v := 3) hx hb dX12_has_337 (by decide) ?_
      refine lv_icmp_eq (tgt := 345) hx hb dX12_has_338 (by decide) (fun c338 => ?_) (fun c338 => ?_)
      · have hf := if_t c338 hf
        refine lv_iload_n hx hb dX12_has_345 rfl (lv_at hl 3 rfl) ?_
        refine lv_bipush (v := 70) hx hb dX12_has_346 (by decide) ?_
        refine lv_icmp_ne (tgt := 361) hx hb dX12_has_348 (by decide) (fun c348 => ?_) (fun c348 => ?_)
        · have hf := if_f c348 hf
          refine lv_aload_n hx hb dX12_has_361 rfl (lv_at hl 0 rfl) ?_
          refine gmX12_16 F K Z dX12_has_362 ?_
          refine lv_iload hx hb dX12_has_365 (lv_at hl 5 rfl) ?_
          obtain ⟨i367, hf⟩ := if_some hf
          refine ml3 F K Z i367 dX12_has_367 ?_
          have hf := Option.some.inj hf
          subst hf
          exact ret_i F hr hk Z dX12_has_368
        have hf := if_t c348 hf
        refine lv_aload_n hx hb dX12_has_351 rfl (lv_at hl 0 rfl) ?_
        refine gmX12_13 F K Z dX12_has_352 ?_
        refine lv_iload hx hb dX12_has_355 (lv_at hl 5 rfl) ?_
        obtain ⟨i357, hf⟩ := if_some hf
        refine ml2 F K Z i357 dX12_has_357 ?_
        refine lv_goto (tgt := 368) hx hb dX12_has_358 (by decide) ?_
        have hf := Option.some.inj hf
        subst hf
        exact ret_i F hr hk Z dX12_has_368
      have hf := if_f c338 hf
      refine lv_iconst (v := -1) hx hb dX12_has_341 (by decide) ?_
      refine lv_goto (tgt := 368) hx hb dX12_has_342 (by decide) ?_
      have hf := Option.some.inj hf
      subst hf
      exact ret_i F hr hk Z dX12_has_368
    have hf := if_t c315 hf
    refine lv_aload_n hx hb dX12_has_318 rfl (lv_at hl 0 rfl) ?_
    refine lv_aload_n hx hb dX12_has_319 rfl (lv_at hl 0 rfl) ?_
    refine gmX12_145 F K Z dX12_has_320 ?_
    refine lv_iload_n hx hb dX12_has_323 rfl (lv_at hl 2 rfl) ?_
    obtain ⟨i324, hf⟩ := if_some hf
    refine ml43 F K Z i324 dX12_has_324 ?_
    refine lv_iconst (v := -1) hx hb dX12_has_325 (by decide) ?_
    obtain ⟨q326, h326, hf⟩ := bind_some hf
    refine krX12_478_X12_askOf F K E hA Z h326 ⟨Nat.le_of_ble_eq_true rfl, Nat.le_of_ble_eq_true rfl⟩ hl.1 (Nat.le_of_ble_eq_true rfl) dX12_has_326 (fun H locs Z => ?_)
    have hf := Option.some.inj hf
    subst hf
    exact ret_i F hr hk Z dX12_has_329
  have hf := if_f c13_70 hf
  by_cases c13_72 : x3 = 72
  · have hf := if_t c13_72 hf
    refine lv_tableIn (tgt := 108) hx hb dX12_has_13 (by rw [c13_72] <;> decide) (by rw [c13_72] <;> decide) (by rw [c13_72] <;> rfl) (by decide) ?_
    refine lv_aload_n hx hb dX12_has_108 rfl (lv_at hl 0 rfl) ?_
    refine gmX12_163 F K Z dX12_has_109 ?_
    refine lv_aload_n hx hb dX12_has_112 rfl (lv_at hl 0 rfl) ?_
    refine gmX12_145 F K Z dX12_has_113 ?_
    refine lv_iload_n hx hb dX12_has_116 rfl (lv_at hl 2 rfl) ?_
    obtain ⟨i117, hf⟩ := if_some hf
    refine ml43 F K Z i117 dX12_has_117 ?_
    obtain ⟨i118, hf⟩ := if_some hf
    refine ml49 F K Z i118 dX12_has_118 ?_
    have hf := Option.some.inj hf
    subst hf
    exact ret_i F hr hk Z dX12_has_119
  have hf := if_f c13_72 hf
  by_cases c13_76 : x3 = 76
  · have hf := if_t c13_76 hf
    refine lv_tableIn (tgt := 122) hx hb dX12_has_13 (by rw [c13_76] <;> decide) (by rw [c13_76] <;> decide) (by rw [c13_76] <;> rfl) (by decide) ?_
    refine lv_iload hx hb dX12_has_122 (lv_at hl 4 rfl) ?_
    refine lv_if_ne (tgt := 156) hx hb dX12_has_124 (by decide) (fun c124 => ?_) (fun c124 => ?_)
    · have hf := if_f c124 hf
      refine lv_aload_n hx hb dX12_has_156 rfl (lv_at hl 0 rfl) ?_
      refine lv_iconst (v := 5) hx hb dX12_has_157 (by decide) ?_
      refine lv_aload_n hx hb dX12_has_158 rfl (lv_at hl 0 rfl) ?_
      refine gmX12_151 F K Z dX12_has_159 ?_
      refine lv_iload_n hx hb dX12_has_162 rfl (lv_at hl 2 rfl) ?_
      obtain ⟨i163, hf⟩ := if_some hf
      refine ml45 F K Z i163 dX12_has_163 ?_
      refine lv_iload hx hb dX12_has_164 (lv_at hl 5 rfl) ?_
      obtain ⟨q166, h166, hf⟩ := bind_some hf
      refine krX12_484_X12_askedFormula F K E hA Z h166 ⟨Nat.le_of_ble_eq_true rfl, Nat.le_of_ble_eq_true rfl⟩ hl.1 (Nat.le_of_ble_eq_true rfl) dX12_has_166 (fun H locs Z => ?_)
      have hf := Option.some.inj hf
      subst hf
      exact ret_i F hr hk Z dX12_has_169
    have hf := if_t c124 hf
    refine lv_aload_n hx hb dX12_has_127 rfl (lv_at hl 0 rfl) ?_
    refine gmX12_163 F K Z dX12_has_128 ?_
    refine lv_aload_n hx hb dX12_has_131 rfl (lv_at hl 0 rfl) ?_
    refine gmX12_142 F K Z dX12_has_132 ?_
    refine lv_iload_n hx hb dX12_has_135 rfl (lv_at hl 2 rfl) ?_
    obtain ⟨i136, hf⟩ := if_some hf
    refine ml42 F K Z i136 dX12_has_136 ?_
    refine lv_aload_n hx hb dX12_has_137 rfl (lv_at hl 0 rfl) ?_
    refine gmX12_151 F K Z dX12_has_138 ?_
    refine lv_iload_n hx hb dX12_has_141 rfl (lv_at hl 2 rfl) ?_
    obtain ⟨i142, hf⟩ := if_some hf
    refine ml45 F K Z i142 dX12_has_142 ?_
    obtain ⟨i143, hf⟩ := if_some hf
    refine ms49 F K Z i143 dX12_has_143 (fun H locs Z => ?_)
    refine lv_aload_n hx hb dX12_has_144 rfl (lv_at hl 0 rfl) ?_
    refine lv_aload_n hx hb dX12_has_145 rfl (lv_at hl 0 rfl) ?_
    refine gmX12_145 F K Z dX12_has_146 ?_
    refine lv_iload_n hx hb dX12_has_149 rfl (lv_at hl 2 rfl) ?_
    obtain ⟨i150, hf⟩ := if_some hf
    refine ml43 F K Z i150 dX12_has_150 ?_
    refine lv_iconst (v := -1) hx hb dX12_has_151 (by decide) ?_
    obtain ⟨q152, h152, hf⟩ := bind_some hf
    refine krX12_478_X12_askOf F K E hA Z h152 ⟨Nat.le_of_ble_eq_true rfl, Nat.le_of_ble_eq_true rfl⟩ hl.1 (Nat.le_of_ble_eq_true rfl) dX12_has_152 (fun H locs Z => ?_)
    have hf := Option.some.inj hf
    subst hf
    exact ret_i F hr hk Z dX12_has_155
  have hf := if_f c13_76 hf
  by_cases c13_80 : x3 = 80
  · have hf := if_t c13_80 hf
    refine lv_tableIn (tgt := 170) hx hb dX12_has_13 (by rw [c13_80] <;> decide) (by rw [c13_80] <;> decide) (by rw [c13_80] <;> rfl) (by decide) ?_
    refine lv_iload hx hb dX12_has_170 (lv_at hl 4 rfl) ?_
    refine lv_if_ne (tgt := 187) hx hb dX12_has_172 (by decide) (fun c172 => ?_) (fun c172 => ?_)
    · have hf := if_f c172 hf
      refine lv_iload hx hb dX12_has_187 (lv_at hl 4 rfl) ?_
      refine lv_iconst (v := 1) hx hb dX12_has_189 (by decide) ?_
      refine lv_icmp_ne (tgt := 213) hx hb dX12_has_190 (by decide) (fun c190 => ?_) (fun c190 => ?_)
      · have hf := if_f c190 hf
        refine lv_aload_n hx hb dX12_has_213 rfl (lv_at hl 0 rfl) ?_
        refine lv_iconst (v := 3) hx hb dX12_has_214 (by decide) ?_
        refine lv_aload_n hx hb dX12_has_215 rfl (lv_at hl 0 rfl) ?_
        refine gmX12_175 F K Z dX12_has_216 ?_
        refine lv_iload_n hx hb dX12_has_219 rfl (lv_at hl 1 rfl) ?_
        obtain ⟨i220, hf⟩ := if_some hf
        refine ml53 F K Z i220 dX12_has_220 ?_
        refine lv_iload hx hb dX12_has_221 (lv_at hl 5 rfl) ?_
        obtain ⟨q223, h223, hf⟩ := bind_some hf
        refine krX12_484_X12_askedFormula F K E hA Z h223 ⟨Nat.le_of_ble_eq_true rfl, Nat.le_of_ble_eq_true rfl⟩ hl.1 (Nat.le_of_ble_eq_true rfl) dX12_has_223 (fun H locs Z => ?_)
        have hf := Option.some.inj hf
        subst hf
        exact ret_i F hr hk Z dX12_has_226
      have hf := if_t c190 hf
      refine lv_aload_n hx hb dX12_has_193 rfl (lv_at hl 0 rfl) ?_
      refine gmX12_175 F K Z dX12_has_194 ?_
      refine lv_iload_n hx hb dX12_has_197 rfl (lv_at hl 1 rfl) ?_
      refine lv_iload hx hb dX12_has_198 (lv_at hl 5 rfl) ?_
      obtain ⟨i200, hf⟩ := if_some hf
      refine ms53 F K Z i200 dX12_has_200 (fun H locs Z => ?_)
      refine lv_aload_n hx hb dX12_has_201 rfl (lv_at hl 0 rfl) ?_
      refine lv_aload_n hx hb dX12_has_202 rfl (lv_at hl 0 rfl) ?_
      refine gmX12_148 F K Z dX12_has_203 ?_
      refine lv_iload_n hx hb dX12_has_206 rfl (lv_at hl 2 rfl) ?_
      obtain ⟨i207, hf⟩ := if_some hf
      refine ml44 F K Z i207 dX12_has_207 ?_
      refine lv_iconst (v := -1) hx hb dX12_has_208 (by decide) ?_
      obtain ⟨q209, h209, hf⟩ := bind_some hf
      refine krX12_478_X12_askOf F K E hA Z h209 ⟨Nat.le_of_ble_eq_true rfl, Nat.le_of_ble_eq_true rfl⟩ hl.1 (Nat.le_of_ble_eq_true rfl) dX12_has_209 (fun H locs Z => ?_)
      have hf := Option.some.inj hf
      subst hf
      exact ret_i F hr hk Z dX12_has_212
    have hf := if_t c172 hf
    refine lv_aload_n hx hb dX12_has_175 rfl (lv_at hl 0 rfl) ?_
    refine lv_aload_n hx hb dX12_has_176 rfl (lv_at hl 0 rfl) ?_
    refine gmX12_145 F K Z dX12_has_177 ?_
    refine lv_iload_n hx hb dX12_has_180 rfl (lv_at hl 2 rfl) ?_
    obtain ⟨i181, hf⟩ := if_some hf
    refine ml43 F K Z i181 dX12_has_181 ?_
    refine lv_iconst (v := -1) hx hb dX12_has_182 (by decide) ?_
    obtain ⟨q183, h183, hf⟩ := bind_some hf
    refine krX12_478_X12_askOf F K E hA Z h183 ⟨Nat.le_of_ble_eq_true rfl, Nat.le_of_ble_eq_true rfl⟩ hl.1 (Nat.le_of_ble_eq_true rfl) dX12_has_183 (fun H locs Z => ?_)
    have hf := Option.some.inj hf
    subst hf
    exact ret_i F hr hk Z dX12_has_186
  have hf := if_f c13_80 hf
  by_cases c13_83 : x3 = 83
  · have hf := if_t c13_83 hf
    refine lv_tableIn (tgt := 313) hx hb dX12_has_13 (by rw [c13_83] <;> decide) (by rw [c13_83] <;> decide) (by rw [c13_83] <;> rfl) (by decide) ?_
    refine lv_iload hx hb dX12_has_313 (lv_at hl 4 rfl) ?_
    refine lv_if_ne (tgt := 330) hx hb dX12_has_315 (by decide) (fun c315 => ?_) (fun c315 => ?_)
    · have hf := if_f c315 hf
      refine lv_aload_n hx hb dX12_has_330 rfl (lv_at hl 0 rfl) ?_
      refine gmX12_7 F K Z dX12_has_331 ?_
      refine lv_iload hx hb dX12_has_334 (lv_at hl 5 rfl) ?_
      obtain ⟨i336, hf⟩ := if_some hf
      refine ml1 F K Z i336 dX12_has_336 ?_
      refine lv_iconst (v := 3) hx hb dX12_has_337 (by decide) ?_
      refine lv_icmp_eq (tgt := 345) hx hb dX12_has_338 (by decide) (fun c338 => ?_) (fun c338 => ?_)
      · have hf := if_t c338 hf
        refine lv_iload_n hx hb dX12_has_345 rfl (lv_at hl 3 rfl) ?_
        refine lv_bipush (v := 70) hx hb dX12_has_346 (by decide) ?_
        refine lv_icmp_ne (tgt := 361) hx hb dX12_has_348 (by decide) (fun c348 => ?_) (fun c348 => ?_)
        · have hf := if_f c348 hf
          refine lv_aload_n hx hb dX12_has_361 rfl (lv_at hl 0 rfl) ?_
          refine gmX12_16 F K Z dX12_has_362 ?_
          refine lv_iload hx hb dX12_has_365 (lv_at hl 5 rfl) ?_
          obtain ⟨i367, hf⟩ := if_some hf
          refine ml3 F K Z i367 dX12_has_367 ?_
          have hf := Option.some.inj hf
          subst hf
          exact ret_i F hr hk Z dX12_has_368
        have hf := if_t c348 hf
        refine lv_aload_n hx hb dX12_has_351 rfl (lv_at hl 0 rfl) ?_
        refine gmX12_13 F K Z dX12_has_352 ?_
        refine lv_iload hx hb dX12_has_355 (lv_at hl 5 rfl) ?_
        obtain ⟨i357, hf⟩ := if_some hf
        refine ml2 F K Z i357 dX12_has_357 ?_
        refine lv_goto (tgt := 368) hx hb dX12_has_358 (by decide) ?_
        have hf := Option.some.inj hf
        subst hf
        exact ret_i F hr hk Z dX12_has_368
      have hf := if_f c338 hf
      refine lv_iconst (v := -1) hx hb dX12_has_341 (by decide) ?_
      refine lv_goto (tgt := 368) hx hb dX12_has_342 (by decide) ?_
      have hf := Option.some.inj hf
      subst hf
      exact ret_i F hr hk Z dX12_has_368
    have hf := if_t c315 hf
    refine lv_aload_n hx hb dX12_has_318 rfl (lv_at hl 0 rfl) ?_
    refine lv_aload_n hx hb dX12_has_319 rfl (lv_at hl 0 rfl) ?_
    refine gmX12_145 F K Z dX12_has_320 ?_
    refine lv_iload_n hx hb dX12_has_323 rfl (lv_at hl 2 rfl) ?_
    obtain ⟨i324, hf⟩ := if_some hf
    refine ml43 F K Z i324 dX12_has_324 ?_
    refine lv_iconst (v := -1) hx hb dX12_has_325 (by decide) ?_
    obtain ⟨q326, h326, hf⟩ := bind_some hf
    refine krX12_478_X12_askOf F K E hA Z h326 ⟨Nat.le_of_ble_eq_true rfl, Nat.le_of_ble_eq_true rfl⟩ hl.1 (Nat.le_of_ble_eq_true rfl) dX12_has_326 (fun H locs Z => ?_)
    have hf := Option.some.inj hf
    subst hf
    exact ret_i F hr hk Z dX12_has_329
  have hf := if_f c13_83 hf
  by_cases c13_84 : x3 = 84
  · have hf := if_t c13_84 hf
    refine lv_tableIn (tgt := 120) hx hb dX12_has_13 (by rw [c13_84] <;> decide) (by rw [c13_84] <;> decide) (by rw [c13_84] <;> rfl) (by decide) ?_
    refine lv_iconst (v := 1) hx hb dX12_has_120 (by decide) ?_
    have hf := Option.some.inj hf
    subst hf
    exact ret_i F hr hk Z dX12_has_121
  have hf := if_f c13_84 hf
  refine sw_tab (tgt := 369) hx hb dX12_has_13 (sw_any (fun j h1 h2 hj => ?_)) (by decide) ?_
  · rcases (show j = 65 ∨ j = 66 ∨ j = 67 ∨ j = 68 ∨ j = 69 ∨ j = 70 ∨ j = 71 ∨ j = 72 ∨ j = 73 ∨ j = 74 ∨ j = 75 ∨ j = 76 ∨ j = 77 ∨ j = 78 ∨ j = 79 ∨ j = 80 ∨ j = 81 ∨ j = 82 ∨ j = 83 ∨ j = 84 by omega) with rfl | rfl | rfl | rfl | rfl | rfl | rfl | rfl | rfl | rfl | rfl | rfl | rfl | rfl | rfl | rfl | rfl | rfl | rfl | rfl
    · exact absurd hj (lv_neT c13_65 (by decide))
    · rfl
    · rfl
    · rfl
    · rfl
    · exact absurd hj (lv_neT c13_70 (by decide))
    · rfl
    · exact absurd hj (lv_neT c13_72 (by decide))
    · rfl
    · rfl
    · rfl
    · exact absurd hj (lv_neT c13_76 (by decide))
    · rfl
    · rfl
    · rfl
    · exact absurd hj (lv_neT c13_80 (by decide))
    · rfl
    · rfl
    · exact absurd hj (lv_neT c13_83 (by decide))
    · exact absurd hj (lv_neT c13_84 (by decide))
  refine lv_iconst (v := -1) hx hb dX12_has_369 (by decide) ?_
  have hf := Option.some.inj hf
  subst hf
  exact ret_i F hr hk Z dX12_has_370
set_option maxRecDepth 100000 in
set_option maxHeartbeats 4000000 in
theorem c_X12_has {l : Launch} {D : va_G} {ad : Nat → Nat} {cy : Nat → ClassId} {ee : EE} {n : Nat} {st : StT} {x1 : Int32} {x2 : Int32} {x3 : Int32} {x4 : Int32} {x5 : Int32} {res : (Int32 × StT)} (hf : f_X12_has n st x1 x2 x3 x4 x5 = some res) : CT l yX12_has cX12_has 6 (some .int) 2 49 D cy ee (wM ad cy st) (wM ad cy res.2) [.ref (ad 0), .int x1, .int x2, .int x3, .int x4, .int x5] (some (.int res.1)) := by
  refine CT.of (by decide +kernel) (Nat.le_of_ble_eq_true rfl) ?_
  intro p e s m args below meth c A F hr hk K E hA Z ls hl
  have hl : lv_has ls 6 [(0, .ref (ad 0)), (1, .int x1), (2, .int x2), (3, .int x3), (4, .int x4), (5, .int x5)] := hl
  have hx := F.1
  have hb := F.2.1
  unfold f_X12_has at hf
  refine lv_iload hx hb dX12_has_0 (lv_at hl 4 rfl) ?_
  refine lv_if_le (tgt := 12) hx hb dX12_has_2 (by decide) (fun c2 => ?_) (fun c2 => ?_)
  · have hf := if_t c2 hf
    exact b_X12_has_12 F hr hk K E hA _ _ _ _ _ _ hf _ _ _ Z hl
  have hf := if_f c2 hf
  refine lv_iload hx hb dX12_has_5 (lv_at hl 5 rfl) ?_
  refine lv_if_ge (tgt := 12) hx hb dX12_has_7 (by decide) (fun c7 => ?_) (fun c7 => ?_)
  · have hf := if_t c7 hf
    exact b_X12_has_12 F hr hk K E hA _ _ _ _ _ _ hf _ _ _ Z hl
  have hf := if_f c7 hf
  refine lv_iconst (v := -1) hx hb dX12_has_10 (by decide) ?_
  have hf := Option.some.inj hf
  subst hf
  exact ret_i F hr hk Z dX12_has_11
def f_X12_answered (n : Nat) (st : StT) (x1 : Int32) (x2 : Int32) : Option (Int32 × StT) := if inB x1 3300 = true then (if inB (st.2.1 49 (x1).toNatClampNeg) 1600 = true then (if inB x1 3300 = true then (if inB x1 3300 = true then (if inB x1 3300 = true then (if inB x1 3300 = true then (if 0 ≤ (st.2.1 50 (x1).toNatClampNeg) then (if (st.2.1 40 ((st.2.1 49 (x1).toNatClampNeg)).toNatClampNeg) = 67 then ((f_X12_cases n (uA st 51 x1 ((st.2.1 51 (x1).toNatClampNeg) + (1 : Int32))) x1 (st.2.1 49 (x1).toNatClampNeg) (st.2.1 50 (x1).toNatClampNeg) (st.2.1 51 (x1).toNatClampNeg) x2).bind fun q429 => (some (q429.1, q429.2))) else (if (st.2.1 40 ((st.2.1 49 (x1).toNatClampNeg)).toNatClampNeg) = 72 then (if inB (st.2.1 49 (x1).toNatClampNeg) 1600 = true then (if inB ((uA st 51 x1 ((st.2.1 51 (x1).toNatClampNeg) + (1 : Int32))).2.1 42 ((st.2.1 49 (x1).toNatClampNeg)).toNatClampNeg) 80 = true then (if ((uA st 51 x1 ((st.2.1 51 (x1).toNatClampNeg) + (1 : Int32))).2.1 48 (((uA st 51 x1 ((st.2.1 51 (x1).toNatClampNeg) + (1 : Int32))).2.1 42 ((st.2.1 49 (x1).toNatClampNeg)).toNatClampNeg)).toNatClampNeg) = (st.2.1 50 (x1).toNatClampNeg) then (some ((1 : Int32), (uA st 51 x1 ((st.2.1 51 (x1).toNatClampNeg) + (1 : Int32))))) else (some ((0 : Int32), (uA st 51 x1 ((st.2.1 51 (x1).toNatClampNeg) + (1 : Int32)))))) else none) else none) else (if (st.2.1 40 ((st.2.1 49 (x1).toNatClampNeg)).toNatClampNeg) = 73 then (if (st.2.1 51 (x1).toNatClampNeg) = (1 : Int32) then (some (x2, (uA st 51 x1 ((st.2.1 51 (x1).toNatClampNeg) + (1 : Int32))))) else (if inB (st.2.1 50 (x1).toNatClampNeg) 4200 = true then (if ((uA st 51 x1 ((st.2.1 51 (x1).toNatClampNeg) + (1 : Int32))).2.1 0 ((st.2.1 50 (x1).toNatClampNeg)).toNatClampNeg) = (4 : Int32) then (if inB (st.2.1 49 (x1).toNatClampNeg) 1600 = true then (if (st.2.1 40 ((st.2.1 49 (x1).toNatClampNeg)).toNatClampNeg) = (73 : Int32) then (if inB (st.2.1 50 (x1).toNatClampNeg) 4200 = true then ((f_X12_askOf n (uA st 51 x1 ((st.2.1 51 (x1).toNatClampNeg) + (1 : Int32))) ((uA st 51 x1 ((st.2.1 51 (x1).toNatClampNeg) + (1 : Int32))).2.1 42 ((st.2.1 49 (x1).toNatClampNeg)).toNatClampNeg) ((uA st 51 x1 ((st.2.1 51 (x1).toNatClampNeg) + (1 : Int32))).2.1 1 ((st.2.1 50 (x1).toNatClampNeg)).toNatClampNeg)).bind fun q391 => (some (q391.1, q391.2))) else none) else (if inB (st.2.1 50 (x1).toNatClampNeg) 4200 = true then ((f_X12_askOf n (uA st 51 x1 ((st.2.1 51 (x1).toNatClampNeg) + (1 : Int32))) ((uA st 51 x1 ((st.2.1 51 (x1).toNatClampNeg) + (1 : Int32))).2.1 42 ((st.2.1 49 (x1).toNatClampNeg)).toNatClampNeg) ((uA st 51 x1 ((st.2.1 51 (x1).toNatClampNeg) + (1 : Int32))).2.1 2 ((st.2.1 50 (x1).toNatClampNeg)).toNatClampNeg)).bind fun q391 => (some (q391.1, q391.2))) else none)) else none) else (some ((0 : Int32), (uA st 51 x1 ((st.2.1 51 (x1).toNatClampNeg) + (1 : Int32)))))) else none)) else (if (st.2.1 40 ((st.2.1 49 (x1).toNatClampNeg)).toNatClampNeg) = 74 then (if (st.2.1 51 (x1).toNatClampNeg) = (1 : Int32) then (some (x2, (uA st 51 x1 ((st.2.1 51 (x1).toNatClampNeg) + (1 : Int32))))) else (if inB (st.2.1 50 (x1).toNatClampNeg) 4200 = true then (if ((uA st 51 x1 ((st.2.1 51 (x1).toNatClampNeg) + (1 : Int32))).2.1 0 ((st.2.1 50 (x1).toNatClampNeg)).toNatClampNeg) = (4 : Int32) then (if inB (st.2.1 49 (x1).toNatClampNeg) 1600 = true then (if (st.2.1 40 ((st.2.1 49 (x1).toNatClampNeg)).toNatClampNeg) = (73 : Int32) then (if inB (st.2.1 50 (x1).toNatClampNeg) 4200 = true then ((f_X12_askOf n (uA st 51 x1 ((st.2.1 51 (x1).toNatClampNeg) + (1 : Int32))) ((uA st 51 x1 ((st.2.1 51 (x1).toNatClampNeg) + (1 : Int32))).2.1 42 ((st.2.1 49 (x1).toNatClampNeg)).toNatClampNeg) ((uA st 51 x1 ((st.2.1 51 (x1).toNatClampNeg) + (1 : Int32))).2.1 1 ((st.2.1 50 (x1).toNatClampNeg)).toNatClampNeg)).bind fun q391 => (some (q391.1, q391.2))) else none) else (if inB (st.2.1 50 (x1).toNatClampNeg) 4200 = true then ((f_X12_askOf n (uA st 51 x1 ((st.2.1 51 (x1).toNatClampNeg) + (1 : Int32))) ((uA st 51 x1 ((st.2.1 51 (x1).toNatClampNeg) + (1 : Int32))).2.1 42 ((st.2.1 49 (x1).toNatClampNeg)).toNatClampNeg) ((uA st 51 x1 ((st.2.1 51 (x1).toNatClampNeg) + (1 : Int32))).2.1 2 ((st.2.1 50 (x1).toNatClampNeg)).toNatClampNeg)).bind fun q391 => (some (q391.1, q391.2))) else none)) else none) else (some ((0 : Int32), (uA st 51 x1 ((st.2.1 51 (x1).toNatClampNeg) + (1 : Int32)))))) else none)) else (if (st.2.1 40 ((st.2.1 49 (x1).toNatClampNeg)).toNatClampNeg) = 76 then (if (st.2.1 51 (x1).toNatClampNeg) = (1 : Int32) then (some (x2, (uA st 51 x1 ((st.2.1 51 (x1).toNatClampNeg) + (1 : Int32))))) else (if inB (st.2.1 50 (x1).toNatClampNeg) 4200 = true then (if ((uA st 51 x1 ((st.2.1 51 (x1).toNatClampNeg) + (1 : Int32))).2.1 0 ((st.2.1 50 (x1).toNatClampNeg)).toNatClampNeg) = (5 : Int32) then (if inB (st.2.1 50 (x1).toNatClampNeg) 4200 = true then (if inB (st.2.1 49 (x1).toNatClampNeg) 1600 = true then (if ((uA st 51 x1 ((st.2.1 51 (x1).toNatClampNeg) + (1 : Int32))).2.1 1 ((st.2.1 50 (x1).toNatClampNeg)).toNatClampNeg) = ((uA st 51 x1 ((st.2.1 51 (x1).toNatClampNeg) + (1 : Int32))).2.1 44 ((st.2.1 49 (x1).toNatClampNeg)).toNatClampNeg) then (if inB (st.2.1 49 (x1).toNatClampNeg) 1600 = true then (if inB (st.2.1 49 (x1).toNatClampNeg) 1600 = true then (if inB ((uA st 51 x1 ((st.2.1 51 (x1).toNatClampNeg) + (1 : Int32))).2.1 41 ((st.2.1 49 (x1).toNatClampNeg)).toNatClampNeg) 80 = true then (if inB (st.2.1 49 (x1).toNatClampNeg) 1600 = true then (if inB (st.2.1 50 (x1).toNatClampNeg) 4200 = true then ((f_X12_askOf n (uA (uA st 51 x1 ((st.2.1 51 (x1).toNatClampNeg) + (1 : Int32))) 48 ((uA st 51 x1 ((st.2.1 51 (x1).toNatClampNeg) + (1 : Int32))).2.1 41 ((st.2.1 49 (x1).toNatClampNeg)).toNatClampNeg) ((uA st 51 x1 ((st.2.1 51 (x1).toNatClampNeg) + (1 : Int32))).2.1 44 ((st.2.1 49 (x1).toNatClampNeg)).toNatClampNeg)) ((uA (uA st 51 x1 ((st.2.1 51 (x1).toNatClampNeg) + (1 : Int32))) 48 ((uA st 51 x1 ((st.2.1 51 (x1).toNatClampNeg) + (1 : Int32))).2.1 41 ((st.2.1 49 (x1).toNatClampNeg)).toNatClampNeg) ((uA st 51 x1 ((st.2.1 51 (x1).toNatClampNeg) + (1 : Int32))).2.1 44 ((st.2.1 49 (x1).toNatClampNeg)).toNatClampNeg)).2.1 42 ((st.2.1 49 (x1).toNatClampNeg)).toNatClampNeg) ((uA (uA st 51 x1 ((st.2.1 51 (x1).toNatClampNeg) + (1 : Int32))) 48 ((uA st 51 x1 ((st.2.1 51 (x1).toNatClampNeg) + (1 : Int32))).2.1 41 ((st.2.1 49 (x1).toNatClampNeg)).toNatClampNeg) ((uA st 51 x1 ((st.2.1 51 (x1).toNatClampNeg) + (1 : Int32))).2.1 44 ((st.2.1 49 (x1).toNatClampNeg)).toNatClampNeg)).2.1 2 ((st.2.1 50 (x1).toNatClampNeg)).toNatClampNeg)).bind fun q266 => (some (q266.1, q266.2))) else none) else none) else none) else none) else none) else (some ((0 : Int32), (uA st 51 x1 ((st.2.1 51 (x1).toNatClampNeg) + (1 : Int32)))))) else none) else none) else (some ((0 : Int32), (uA st 51 x1 ((st.2.1 51 (x1).toNatClampNeg) + (1 : Int32)))))) else none)) else (if (st.2.1 40 ((st.2.1 49 (x1).toNatClampNeg)).toNatClampNeg) = 80 then (if (st.2.1 51 (x1).toNatClampNeg) = 0 then (if inB (st.2.1 50 (x1).toNatClampNeg) 4200 = true then (if ((uA st 51 x1 ((st.2.1 51 (x1).toNatClampNeg) + (1 : Int32))).2.1 0 ((st.2.1 50 (x1).toNatClampNeg)).toNatClampNeg) = (3 : Int32) then (if inB (st.2.1 49 (x1).toNatClampNeg) 1600 = true then (if inB (st.2.1 50 (x1).toNatClampNeg) 4200 = true then ((f_X12_askOf n (uA st 51 x1 ((st.2.1 51 (x1).toNatClampNeg) + (1 : Int32))) ((uA st 51 x1 ((st.2.1 51 (x1).toNatClampNeg) + (1 : Int32))).2.1 42 ((st.2.1 49 (x1).toNatClampNeg)).toNatClampNeg) ((uA st 51 x1 ((st.2.1 51 (x1).toNatClampNeg) + (1 : Int32))).2.1 1 ((st.2.1 50 (x1).toNatClampNeg)).toNatClampNeg)).bind fun q300 => (some (q300.1, q300.2))) else none) else none) else (some ((0 : Int32), (uA st 51 x1 ((st.2.1 51 (x1).toNatClampNeg) + (1 : Int32)))))) else none) else (if (st.2.1 51 (x1).toNatClampNeg) = (1 : Int32) then (if x2 = (1 : Int32) then (if inB (st.2.1 49 (x1).toNatClampNeg) 1600 = true then (if inB (st.2.1 50 (x1).toNatClampNeg) 4200 = true then ((f_X12_askOf n (uA st 51 x1 ((st.2.1 51 (x1).toNatClampNeg) + (1 : Int32))) ((uA st 51 x1 ((st.2.1 51 (x1).toNatClampNeg) + (1 : Int32))).2.1 43 ((st.2.1 49 (x1).toNatClampNeg)).toNatClampNeg) ((uA st 51 x1 ((st.2.1 51 (x1).toNatClampNeg) + (1 : Int32))).2.1 2 ((st.2.1 50 (x1).toNatClampNeg)).toNatClampNeg)).bind fun q333 => (some (q333.1, q333.2))) else none) else none) else (some (x2, (uA st 51 x1 ((st.2.1 51 (x1).toNatClampNeg) + (1 : Int32)))))) else (some (x2, (uA st 51 x1 ((st.2.1 51 (x1).toNatClampNeg) + (1 : Int32))))))) else (if (st.2.1 40 ((st.2.1 49 (x1).toNatClampNeg)).toNatClampNeg) = 84 then (if (st.2.1 50 (x1).toNatClampNeg) = (1 : Int32) then (some ((1 : Int32), (uA st 51 x1 ((st.2.1 51 (x1).toNatClampNeg) + (1 : Int32))))) else (some ((0 : Int32), (uA st 51 x1 ((st.2.1 51 (x1).toNatClampNeg) + (1 : Int32)))))) else (if (st.2.1 40 ((st.2.1 49 (x1).toNatClampNeg)).toNatClampNeg) = 88 then (if (st.2.1 51 (x1).toNatClampNeg) = (1 : Int32) then (some (x2, (uA st 51 x1 ((st.2.1 51 (x1).toNatClampNeg) + (1 : Int32))))) else (if inB (st.2.1 49 (x1).toNatClampNeg) 1600 = true then ((f_X12_askOf n (uA st 51 x1 ((st.2.1 51 (x1).toNatClampNeg) + (1 : Int32))) ((uA st 51 x1 ((st.2.1 51 (x1).toNatClampNeg) + (1 : Int32))).2.1 42 ((st.2.1 49 (x1).toNatClampNeg)).toNatClampNeg) (0 : Int32)).bind fun q417 => (some (q417.1, q417.2))) else none)) else (if (st.2.1 51 (x1).toNatClampNeg) = (1 : Int32) then (if x2 = (st.2.1 50 (x1).toNatClampNeg) then (some ((1 : Int32), (uA st 51 x1 ((st.2.1 51 (x1).toNatClampNeg) + (1 : Int32))))) else (some ((0 : Int32), (uA st 51 x1 ((st.2.1 51 (x1).toNatClampNeg) + (1 : Int32)))))) else ((f_X12_askOf n (uA st 51 x1 ((st.2.1 51 (x1).toNatClampNeg) + (1 : Int32))) (st.2.1 49 (x1).toNatClampNeg) (-1 : Int32)).bind fun q456 => (some (q456.1, q456.2)))))))))))) else ((f_X12_has n (uA st 51 x1 ((st.2.1 51 (x1).toNatClampNeg) + (1 : Int32))) x1 (st.2.1 49 (x1).toNatClampNeg) (st.2.1 40 ((st.2.1 49 (x1).toNatClampNeg)).toNatClampNeg) (st.2.1 51 (x1).toNatClampNeg) x2).bind fun q54 => (some (q54.1, q54.2)))) else none) else none) else none) else none) else none) else none
theorem wd1300 : Cond.methodLink RX12 481 yX12_cases ∈ Gw := gT8 (List.mem_of_getElem? (i := 213) rfl) rfl
theorem wd1301 : Cond.code yX12_cases prog_14_method_63_code 6 (some .int) ∈ Gw := gT8 (List.mem_of_getElem? (i := 216) rfl) rfl
theorem wd1302 : Cond.instanceMethod yX12_cases ∈ Gw := gT8 (List.mem_of_getElem? (i := 215) rfl) rfl
theorem wd1303 : Cond.selects RX12 yX12_cases yX12_cases ∈ Gw := gP9 (q := (yX12_cases, 98)) (List.mem_of_getElem? (i := 4) rfl)
theorem wd1304 : Cond.methodLink RX12 475 yX12_has ∈ Gw := gT8 (List.mem_of_getElem? (i := 205) rfl) rfl
theorem wd1305 : Cond.code yX12_has prog_14_method_64_code 6 (some .int) ∈ Gw := gT8 (List.mem_of_getElem? (i := 208) rfl) rfl
theorem wd1306 : Cond.instanceMethod yX12_has ∈ Gw := gT8 (List.mem_of_getElem? (i := 207) rfl) rfl
theorem wd1307 : Cond.selects RX12 yX12_has yX12_has ∈ Gw := gP9 (q := (yX12_has, 98)) (List.mem_of_getElem? (i := 2) rfl)
section
variable {p : Program} {l : Launch} {e : Env} {R : Room} {s : State} {m : MethodId} {args : Array Value} {below : List Frame} {meth : Method} {c : Code} {H : Heap} {locs : List Loc} {Q : State → Prop}
variable {cc : ByteArray} {nL pc : Nat} {ls : Array Slot} {rest : List Value} {D : va_G} {A : Nat → Prop} {cw : Cond} {ad : Nat → Nat} {cy : Nat → ClassId} {ee : EE} {st : StT} {own : String}
theorem krX12_481_X12_cases {n : Nat} {a0 : Int32} {a1 : Int32} {a2 : Int32} {a3 : Int32} {a4 : Int32} {q : (Int32 × StT)} (F : CallFix p m c cc nL s args (cw :: Gw) RX12) (K : va_K D vwCl (tyL cy) s) (E : EV ee A s s.heap) (hA : ∀ q, s.heap.size ≤ q → A q) (Z : ZG D (wM ad cy st) A s H locs) (hf : f_X12_cases n st a0 a1 a2 a3 a4 = some q) (hR : 2 ≤ R.frames ∧ 47 ≤ R.locals) (hl : ls.size = nL) (hst : (rest.map fun v => v.category).sum ≤ 8) (hd : decode cc pc = .ok (.invokevirtual 481, 3)) (kk : ∀ (H1 : Heap) (locs1 : List Loc), ZG D (wM ad cy q.2) A s H1 locs1 → W p l e R s m args below meth c H1 locs1 0 0 Q (F0 m (pc + 3) ls (.int q.1 :: rest))) : W p l e R s m args below meth c H locs 0 0 Q (F0 m pc ls (.int a4 :: .int a3 :: .int a2 :: .int a1 :: .int a0 :: .ref (ad 0) :: rest)) :=
  call_V (q := (RX12, TX12, 98)) (n := 5) (As := [.int a0, .int a1, .int a2, .int a3, .int a4]) (rv := some (.int q.1)) 0 12 F K E hA Z (c_X12_cases (l := l) (D := D) (ad := ad) (cy := cy) (ee := ee) hf) ⟨wd1301, wd1300, wd1302, wd1303, wd1008⟩ (by decide +kernel) rfl rfl hR rfl hl hst hd kk
theorem krX12_475_X12_has {n : Nat} {a0 : Int32} {a1 : Int32} {a2 : Int32} {a3 : Int32} {a4 : Int32} {q : (Int32 × StT)} (F : CallFix p m c cc nL s args (cw :: Gw) RX12) (K : va_K D vwCl (tyL cy) s) (E : EV ee A s s.heap) (hA : ∀ q, s.heap.size ≤ q → A q) (Z : ZG D (wM ad cy st) A s H locs) (hf : f_X12_has n st a0 a1 a2 a3 a4 = some q) (hR : 3 ≤ R.frames ∧ 74 ≤ R.locals) (hl : ls.size = nL) (hst : (rest.map fun v => v.category).sum ≤ 8) (hd : decode cc pc = .ok (.invokevirtual 475, 3)) (kk : ∀ (H1 : Heap) (locs1 : List Loc), ZG D (wM ad cy q.2) A s H1 locs1 → W p l e R s m args below meth c H1 locs1 0 0 Q (F0 m (pc + 3) ls (.int q.1 :: rest))) : W p l e R s m args below meth c H locs 0 0 Q (F0 m pc ls (.int a4 :: .int a3 :: .int a2 :: .int a1 :: .int a0 :: .ref (ad 0) :: rest)) :=
  call_V (q := (RX12, TX12, 98)) (n := 5) (As := [.int a0, .int a1, .int a2, .int a3, .int a4]) (rv := some (.int q.1)) 0 12 F K E hA Z (c_X12_has (l := l) (D := D) (ad := ad) (cy := cy) (ee := ee) hf) ⟨wd1305, wd1304, wd1306, wd1307, wd1008⟩ (by decide +kernel) rfl rfl hR rfl hl hst hd kk
end
set_option maxRecDepth 100000 in
set_option maxHeartbeats 4000000 in
theorem c_X12_answered {l : Launch} {D : va_G} {ad : Nat → Nat} {cy : Nat → ClassId} {ee : EE} {n : Nat} {st : StT} {x1 : Int32} {x2 : Int32} {res : (Int32 × StT)} (hf : f_X12_answered n st x1 x2 = some res) : CT l yX12_answered cX12_answered 7 (some .int) 3 74 D cy ee (wM ad cy st) (wM ad cy res.2) [.ref (ad 0), .int x1, .int x2] (some (.int res.1)) := by
  refine CT.of (by decide +kernel) (Nat.le_of_ble_eq_true rfl) ?_
  intro p e s m args below meth c A F hr hk K E hA Z ls hl
  have hl : lv_has ls 7 [(0, .ref (ad 0)), (1, .int x1), (2, .int x2)] := hl
  have hx := F.1
  have hb := F.2.1
  unfold f_X12_answered at hf
  refine lv_aload_n hx hb dX12_answered_0 rfl (lv_at hl 0 rfl) ?_
  refine gmX12_166 F K Z dX12_answered_1 ?_
  refine lv_iload_n hx hb dX12_answered_4 rfl (lv_at hl 1 rfl) ?_
  obtain ⟨i5, hf⟩ := if_some hf
  refine ml50 F K Z i5 dX12_answered_5 ?_
  refine lv_istore_n (lv' := [(3, .int (st.2.1 49 (x1).toNatClampNeg)), (0, .ref (ad 0)), (1, .int x1), (2, .int x2)]) hx hb dX12_answered_6 rfl hl (by decide) rfl (fun ls hl => ?_)
  refine lv_aload_n hx hb dX12_answered_7 rfl (lv_at hl 1 rfl) ?_
  refine gmX12_139 F K Z dX12_answered_8 ?_
  refine lv_iload_n hx hb dX12_answered_11 rfl (lv_at hl 0 rfl) ?_
  obtain ⟨i12, hf⟩ := if_some hf
  refine ml41 F K Z i12 dX12_answered_12 ?_
  refine lv_istore (lv' := [(4, .int (st.2.1 40 ((st.2.1 49 (x1).toNatClampNeg)).toNatClampNeg)), (3, .int (st.2.1 49 (x1).toNatClampNeg)), (0, .ref (ad 0)), (1, .int x1), (2, .int x2)]) hx hb dX12_answered_13 hl (by decide) rfl (fun ls hl => ?_)
  refine lv_aload_n hx hb dX12_answered_15 rfl (lv_at hl 2 rfl) ?_
  refine gmX12_169 F K Z dX12_answered_16 ?_
  refine lv_iload_n hx hb dX12_answered_19 rfl (lv_at hl 3 rfl) ?_
  obtain ⟨i20, hf⟩ := if_some hf
  refine ml51 F K Z i20 dX12_answered_20 ?_
  refine lv_istore (lv' := [(5, .int (st.2.1 50 (x1).toNatClampNeg)), (4, .int (st.2.1 40 ((st.2.1 49 (x1).toNatClampNeg)).toNatClampNeg)), (3, .int (st.2.1 49 (x1).toNatClampNeg)), (0, .ref (ad 0)), (1, .int x1), (2, .int x2)]) hx hb dX12_answered_21 hl (by decide) rfl (fun ls hl => ?_)
  refine lv_aload_n hx hb dX12_answered_23 rfl (lv_at hl 3 rfl) ?_
  refine gmX12_172 F K Z dX12_answered_24 ?_
  refine lv_iload_n hx hb dX12_answered_27 rfl (lv_at hl 4 rfl) ?_
  obtain ⟨i28, hf⟩ := if_some hf
  refine ml52 F K Z i28 dX12_answered_28 ?_
  refine lv_istore (lv' := [(6, .int (st.2.1 51 (x1).toNatClampNeg)), (5, .int (st.2.1 50 (x1).toNatClampNeg)), (4, .int (st.2.1 40 ((st.2.1 49 (x1).toNatClampNeg)).toNatClampNeg)), (3, .int (st.2.1 49 (x1).toNatClampNeg)), (0, .ref (ad 0)), (1, .int x1), (2, .int x2)]) hx hb dX12_answered_29 hl (by decide) rfl (fun ls hl => ?_)
  refine lv_aload_n hx hb dX12_answered_31 rfl (lv_at hl 4 rfl) ?_
  refine gmX12_172 F K Z dX12_answered_32 ?_
  refine lv_iload_n hx hb dX12_answered_35 rfl (lv_at hl 5 rfl) ?_
  refine lv_dup2_11 hx hb dX12_answered_36 rfl rfl ?_
  obtain ⟨i37, hf⟩ := if_some hf
  refine ml52 F K Z i37 dX12_answered_37 ?_
  refine lv_iconst (v := 1) hx hb dX12_answered_38 (by decide) ?_
  refine lv_iadd hx hb dX12_answered_39 ?_
  obtain ⟨i40, hf⟩ := if_some hf
  refine ms52 F K Z i40 dX12_answered_40 (fun H locs Z => ?_)
  refine lv_iload hx hb dX12_answered_41 (lv_at hl 1 rfl) ?_
  refine lv_if_ge (tgt := 58) hx hb dX12_answered_43 (by decide) (fun c43 => ?_) (fun c43 => ?_)
  · have hf := if_t c43 hf
    refine lv_iload hx hb dX12_answered_58 (lv_at hl 2 rfl) ?_
    by_cases c60_67 : (st.2.1 40 ((st.2.1 49 (x1).toNatClampNeg)).toNatClampNeg) = 67
    · have hf := if_t c60_67 hf
      refine lv_tableIn (tgt := 421) hx hb dX12_answered_60 (by rw [c60_67] <;> decide) (by rw [c60_67] <;> decide) (by rw [c60_67] <;> rfl) (by decide) ?_
      refine lv_aload_n hx hb dX12_answered_421 rfl (lv_at hl 4 rfl) ?_
      refine lv_iload_n hx hb dX12_answered_422 rfl (lv_at hl 5 rfl) ?_
      refine lv_iload_n hx hb dX12_answered_423 rfl (lv_at hl 3 rfl) ?_
      refine lv_iload hx hb dX12_answered_424 (lv_at hl 1 rfl) ?_
      refine lv_iload hx hb dX12_answered_426 (lv_at hl 0 rfl) ?_
      refine lv_iload_n hx hb dX12_answered_428 rfl (lv_at hl 6 rfl) ?_
      obtain ⟨q429, h429, hf⟩ := bind_some hf
      refine krX12_481_X12_cases F K E hA Z h429 ⟨Nat.le_of_ble_eq_true rfl, Nat.le_of_ble_eq_true rfl⟩ hl.1 (Nat.le_of_ble_eq_true rfl) dX12_answered_429 (fun H locs Z => ?_)
      have hf := Option.some.inj hf
      subst hf
      exact ret_i F hr hk Z dX12_answered_432
    have hf := if_f c60_67 hf
    by_cases c60_72 : (st.2.1 40 ((st.2.1 49 (x1).toNatClampNeg)).toNatClampNeg) = 72
    · have hf := if_t c60_72 hf
      refine lv_tableIn (tgt := 164) hx hb dX12_answered_60 (by rw [c60_72] <;> decide) (by rw [c60_72] <;> decide) (by rw [c60_72] <;> rfl) (by decide) ?_
      refine lv_aload_n hx hb dX12_answered_164 rfl (lv_at hl 4 rfl) ?_
      refine gmX12_163 F K Z dX12_answered_165 ?_
      refine lv_aload_n hx hb dX12_answered_168 rfl (lv_at hl 4 rfl) ?_
      refine gmX12_145 F K Z dX12_answered_169 ?_
      refine lv_iload_n hx hb dX12_answered_172 rfl (lv_at hl 3 rfl) ?_
      obtain ⟨i173, hf⟩ := if_some hf
      refine ml43 F K Z i173 dX12_answered_173 ?_
      obtain ⟨i174, hf⟩ := if_some hf
      refine ml49 F K Z i174 dX12_answered_174 ?_
      refine lv_iload hx hb dX12_answered_175 (lv_at hl 1 rfl) ?_
      refine lv_icmp_ne (tgt := 184) hx hb dX12_answered_177 (by decide) (fun c177 => ?_) (fun c177 => ?_)
      · have hf := if_f c177 hf
        refine lv_iconst (v := 0) hx hb dX12_answered_184 (by decide) ?_
        have hf := Option.some.inj hf
        subst hf
        exact ret_i F hr hk Z dX12_answered_185
      have hf := if_t c177 hf
      refine lv_iconst (v := 1) hx hb dX12_answered_180 (by decide) ?_
      refine lv_goto (tgt := 185) hx hb dX12_answered_181 (by decide) ?_
      have hf := Option.some.inj hf
      subst hf
      exact ret_i F hr hk Z dX12_answered_185
    have hf := if_f c60_72 hf
    by_cases c60_73 : (st.2.1 40 ((st.2.1 49 (x1).toNatClampNeg)).toNatClampNeg) = 73
    · have hf := if_t c60_73 hf
      refine lv_tableIn (tgt := 341) hx hb dX12_answered_60 (by rw [c60_73] <;> decide) (by rw [c60_73] <;> decide) (by rw [c60_73] <;> rfl) (by decide) ?_
      refine lv_iload hx hb dX12_answered_341 (lv_at hl 0 rfl) ?_
      refine lv_iconst (v := 1) hx hb dX12_answered_343 (by decide) ?_
      refine lv_icmp_ne (tgt := 349) hx hb dX12_answered_344 (by decide) (fun c344 => ?_) (fun c344 => ?_)
      · have hf := if_f c344 hf
        refine lv_aload_n hx hb dX12_answered_349 rfl (lv_at hl 4 rfl) ?_
        refine gmX12_7 F K Z dX12_answered_350 ?_
        refine lv_iload hx hb dX12_answered_353 (lv_at hl 1 rfl) ?_
        obtain ⟨i355, hf⟩ := if_some hf
        refine ml1 F K Z i355 dX12_answered_355 ?_
        refine lv_iconst (v := 4) hx hb dX12_answered_356 (by decide) ?_
        refine lv_icmp_ne (tgt := 397) hx hb dX12_answered_357 (by decide) (fun c357 => ?_) (fun c357 => ?_)
        · have hf := if_f c357 hf
          refine lv_iconst (v := 0) hx hb dX12_answered_397 (by decide) ?_
          have hf := Option.some.inj hf
          subst hf
          exact ret_i F hr hk Z dX12_answered_398
        have hf := if_t c357 hf
        refine lv_aload_n hx hb dX12_answered_360 rfl (lv_at hl 4 rfl) ?_
        refine lv_aload_n hx hb dX12_answered_361 rfl (lv_at hl 4 rfl) ?_
        refine gmX12_145 F K Z dX12_answered_362 ?_
        refine lv_iload_n hx hb dX12_answered_365 rfl (lv_at hl 3 rfl) ?_
        obtain ⟨i366, hf⟩ := if_some hf
        refine ml43 F K Z i366 dX12_answered_366 ?_
        refine lv_iload hx hb dX12_answered_367 (lv_at hl 2 rfl) ?_
        refine lv_bipush (v := 73) hx hb dX12_answered_369 (by decide) ?_
        refine lv_icmp_ne (tgt := 384) hx hb dX12_answered_371 (by decide) (fun c371 => ?_) (fun c371 => ?_)
        · have hf := if_f c371 hf
          refine lv_aload_n hx hb dX12_answered_384 rfl (lv_at hl 4 rfl) ?_
          refine gmX12_16 F K Z dX12_answered_385 ?_
          refine lv_iload hx hb dX12_answered_388 (lv_at hl 1 rfl) ?_
          obtain ⟨i390, hf⟩ := if_some hf
          refine ml3 F K Z i390 dX12_answered_390 ?_
          obtain ⟨q391, h391, hf⟩ := bind_some hf
          refine krX12_478_X12_askOf F K E hA Z h391 ⟨Nat.le_of_ble_eq_true rfl, Nat.le_of_ble_eq_true rfl⟩ hl.1 (Nat.le_of_ble_eq_true rfl) dX12_answered_391 (fun H locs Z => ?_)
          refine lv_goto (tgt := 398) hx hb dX12_answered_394 (by decide) ?_
          have hf := Option.some.inj hf
          subst hf
          exact ret_i F hr hk Z dX12_answered_398
        have hf := if_t c371 hf
        refine lv_aload_n hx hb dX12_answered_374 rfl (lv_at hl 4 rfl) ?_
        refine gmX12_13 F K Z dX12_answered_375 ?_
        refine lv_iload hx hb dX12_answered_378 (lv_at hl 1 rfl) ?_
        obtain ⟨i380, hf⟩ := if_some hf
        refine ml2 F K Z i380 dX12_answered_380 ?_
        refine lv_goto (tgt := 391) hx hb dX12_answered_381 (by decide) ?_
        obtain ⟨q391, h391, hf⟩ := bind_some hf
        refine krX12_478_X12_askOf F K E hA Z h391 ⟨Nat.le_of_ble_eq_true rfl, Nat.le_of_ble_eq_true rfl⟩ hl.1 (Nat.le_of_ble_eq_true rfl) dX12_answered_391 (fun H locs Z => ?_)
        refine lv_goto (tgt := 398) hx hb dX12_answered_394 (by decide) ?_
        have hf := Option.some.inj hf
        subst hf
        exact ret_i F hr hk Z dX12_answered_398
      have hf := if_t c344 hf
      refine lv_iload_n hx hb dX12_answered_347 rfl (lv_at hl 6 rfl) ?_
      have hf := Option.some.inj hf
      subst hf
      exact ret_i F hr hk Z dX12_answered_348
    have hf := if_f c60_73 hf
    by_cases c60_74 : (st.2.1 40 ((st.2.1 49 (x1).toNatClampNeg)).toNatClampNeg) = 74
    · have hf := if_t c60_74 hf
      refine lv_tableIn (tgt := 341) hx hb dX12_answered_60 (by rw [c60_74] <;> decide) (by rw [c60_74] <;> decide) (by rw [c60_74] <;> rfl) (by decide) ?_
      refine lv_iload hx hb dX12_answered_341 (lv_at hl 0 rfl) ?_
      refine lv_iconst (v := 1) hx hb dX12_answered_343 (by decide) ?_
      refine lv_icmp_ne (tgt := 349) hx hb dX12_answered_344 (by decide) (fun c344 => ?_) (fun c344 => ?_)
      · have hf := if_f c344 hf
        refine lv_aload_n hx hb dX12_answered_349 rfl (lv_at hl 4 rfl) ?_
        refine gmX12_7 F K Z dX12_answered_350 ?_
        refine lv_iload hx hb dX12_answered_353 (lv_at hl 1 rfl) ?_
        obtain ⟨i355, hf⟩ := if_some hf
        refine ml1 F K Z i355 dX12_answered_355 ?_
        refine lv_iconst (v := 4) hx hb dX12_answered_356 (by decide) ?_
        refine lv_icmp_ne (tgt := 397) hx hb dX12_answered_357 (by decide) (fun c357 => ?_) (fun c357 => ?_)
        · have hf := if_f c357 hf
          refine lv_iconst (v := 0) hx hb dX12_answered_397 (by decide) ?_
          have hf := Option.some.inj hf
          subst hf
          exact ret_i F hr hk Z dX12_answered_398
        have hf := if_t c357 hf
        refine lv_aload_n hx hb dX12_answered_360 rfl (lv_at hl 4 rfl) ?_
        refine lv_aload_n hx hb dX12_answered_361 rfl (lv_at hl 4 rfl) ?_
        refine gmX12_145 F K Z dX12_answered_362 ?_
        refine lv_iload_n hx hb dX12_answered_365 rfl (lv_at hl 3 rfl) ?_
        obtain ⟨i366, hf⟩ := if_some hf
        refine ml43 F K Z i366 dX12_answered_366 ?_
        refine lv_iload hx hb dX12_answered_367 (lv_at hl 2 rfl) ?_
        refine lv_bipush (v := 73) hx hb dX12_answered_369 (by decide) ?_
        refine lv_icmp_ne (tgt := 384) hx hb dX12_answered_371 (by decide) (fun c371 => ?_) (fun c371 => ?_)
        · have hf := if_f c371 hf
          refine lv_aload_n hx hb dX12_answered_384 rfl (lv_at hl 4 rfl) ?_
          refine gmX12_16 F K Z dX12_answered_385 ?_
          refine lv_iload hx hb dX12_answered_388 (lv_at hl 1 rfl) ?_
          obtain ⟨i390, hf⟩ := if_some hf
          refine ml3 F K Z i390 dX12_answered_390 ?_
          obtain ⟨q391, h391, hf⟩ := bind_some hf
          refine krX12_478_X12_askOf F K E hA Z h391 ⟨Nat.le_of_ble_eq_true rfl, Nat.le_of_ble_eq_true rfl⟩ hl.1 (Nat.le_of_ble_eq_true rfl) dX12_answered_391 (fun H locs Z => ?_)
          refine lv_goto (tgt := 398) hx hb dX12_answered_394 (by decide) ?_
          have hf := Option.some.inj hf
          subst hf
          exact ret_i F hr hk Z dX12_answered_398
        have hf := if_t c371 hf
        refine lv_aload_n hx hb dX12_answered_374 rfl (lv_at hl 4 rfl) ?_
        refine gmX12_13 F K Z dX12_answered_375 ?_
        refine lv_iload hx hb dX12_answered_378 (lv_at hl 1 rfl) ?_
        obtain ⟨i380, hf⟩ := if_some hf
        refine ml2 F K Z i380 dX12_answered_380 ?_
        refine lv_goto (tgt := 391) hx hb dX12_answered_381 (by decide) ?_
        obtain ⟨q391, h391, hf⟩ := bind_some hf
        refine krX12_478_X12_askOf F K E hA Z h391 ⟨Nat.le_of_ble_eq_true rfl, Nat.le_of_ble_eq_true rfl⟩ hl.1 (Nat.le_of_ble_eq_true rfl) dX12_answered_391 (fun H locs Z => ?_)
        refine lv_goto (tgt := 398) hx hb dX12_answered_394 (by decide) ?_
        have hf := Option.some.inj hf
        subst hf
        exact ret_i F hr hk Z dX12_answered_398
      have hf := if_t c344 hf
      refine lv_iload_n hx hb dX12_answered_347 rfl (lv_at hl 6 rfl) ?_
      have hf := Option.some.inj hf
      subst hf
      exact ret_i F hr hk Z dX12_answered_348
    have hf := if_f c60_74 hf
    by_cases c60_76 : (st.2.1 40 ((st.2.1 49 (x1).toNatClampNeg)).toNatClampNeg) = 76
    · have hf := if_t c60_76 hf
      refine lv_tableIn (tgt := 198) hx hb dX12_answered_60 (by rw [c60_76] <;> decide) (by rw [c60_76] <;> decide) (by rw [c60_76] <;> rfl) (by decide) ?_
      refine lv_iload hx hb dX12_answered_198 (lv_at hl 0 rfl) ?_
      refine lv_iconst (v := 1) hx hb dX12_answered_200 (by decide) ?_
      refine lv_icmp_ne (tgt := 206) hx hb dX12_answered_201 (by decide) (fun c201 => ?_) (fun c201 => ?_)
      · have hf := if_f c201 hf
        refine lv_aload_n hx hb dX12_answered_206 rfl (lv_at hl 4 rfl) ?_
        refine gmX12_7 F K Z dX12_answered_207 ?_
        refine lv_iload hx hb dX12_answered_210 (lv_at hl 1 rfl) ?_
        obtain ⟨i212, hf⟩ := if_some hf
        refine ml1 F K Z i212 dX12_answered_212 ?_
        refine lv_iconst (v := 5) hx hb dX12_answered_213 (by decide) ?_
        refine lv_icmp_ne (tgt := 233) hx hb dX12_answered_214 (by decide) (fun c214 => ?_) (fun c214 => ?_)
        · have hf := if_f c214 hf
          refine lv_iconst (v := 0) hx hb dX12_answered_233 (by decide) ?_
          have hf := Option.some.inj hf
          subst hf
          exact ret_i F hr hk Z dX12_answered_234
        have hf := if_t c214 hf
        refine lv_aload_n hx hb dX12_answered_217 rfl (lv_at hl 4 rfl) ?_
        refine gmX12_13 F K Z dX12_answered_218 ?_
        refine lv_iload hx hb dX12_answered_221 (lv_at hl 1 rfl) ?_
        obtain ⟨i223, hf⟩ := if_some hf
        refine ml2 F K Z i223 dX12_answered_223 ?_
        refine lv_aload_n hx hb dX12_answered_224 rfl (lv_at hl 4 rfl) ?_
        refine gmX12_151 F K Z dX12_answered_225 ?_
        refine lv_iload_n hx hb dX12_answered_228 rfl (lv_at hl 3 rfl) ?_
        obtain ⟨i229, hf⟩ := if_some hf
        refine ml45 F K Z i229 dX12_answered_229 ?_
        refine lv_icmp_eq (tgt := 235) hx hb dX12_answered_230 (by decide) (fun c230 => ?_) (fun c230 => ?_)
        · have hf := if_t c230 hf
          refine lv_aload_n hx hb dX12_answered_235 rfl (lv_at hl 4 rfl) ?_
          refine gmX12_163 F K Z dX12_answered_236 ?_
          refine lv_aload_n hx hb dX12_answered_239 rfl (lv_at hl 4 rfl) ?_
          refine gmX12_142 F K Z dX12_answered_240 ?_
          refine lv_iload_n hx hb dX12_answered_243 rfl (lv_at hl 3 rfl) ?_
          obtain ⟨i244, hf⟩ := if_some hf
          refine ml42 F K Z i244 dX12_answered_244 ?_
          refine lv_aload_n hx hb dX12_answered_245 rfl (lv_at hl 4 rfl) ?_
          refine gmX12_151 F K Z dX12_answered_246 ?_
          refine lv_iload_n hx hb dX12_answered_249 rfl (lv_at hl 3 rfl) ?_
          obtain ⟨i250, hf⟩ := if_some hf
          refine ml45 F K Z i250 dX12_answered_250 ?_
          obtain ⟨i251, hf⟩ := if_some hf
          refine ms49 F K Z i251 dX12_answered_251 (fun H locs Z => ?_)
          refine lv_aload_n hx hb dX12_answered_252 rfl (lv_at hl 4 rfl) ?_
          refine lv_aload_n hx hb dX12_answered_253 rfl (lv_at hl 4 rfl) ?_
          refine gmX12_145 F K Z dX12_answered_254 ?_
          refine lv_iload_n hx hb dX12_answered_257 rfl (lv_at hl 3 rfl) ?_
          obtain ⟨i258, hf⟩ := if_some hf
          refine ml43 F K Z i258 dX12_answered_258 ?_
          refine lv_aload_n hx hb dX12_answered_259 rfl (lv_at hl 4 rfl) ?_
          refine gmX12_16 F K Z dX12_answered_260 ?_
          refine lv_iload hx hb dX12_answered_263 (lv_at hl 1 rfl) ?_
          obtain ⟨i265, hf⟩ := if_some hf
          refine ml3 F K Z i265 dX12_answered_265 ?_
          obtain ⟨q266, h266, hf⟩ := bind_some hf
          refine krX12_478_X12_askOf F K E hA Z h266 ⟨Nat.le_of_ble_eq_true rfl, Nat.le_of_ble_eq_true rfl⟩ hl.1 (Nat.le_of_ble_eq_true rfl) dX12_answered_266 (fun H locs Z => ?_)
          have hf := Option.some.inj hf
          subst hf
          exact ret_i F hr hk Z dX12_answered_269
        have hf := if_f c230 hf
        refine lv_iconst (v := 0) hx hb dX12_answered_233 (by decide) ?_
        have hf := Option.some.inj hf
        subst hf
        exact ret_i F hr hk Z dX12_answered_234
      have hf := if_t c201 hf
      refine lv_iload_n hx hb dX12_answered_204 rfl (lv_at hl 6 rfl) ?_
      have hf := Option.some.inj hf
      subst hf
      exact ret_i F hr hk Z dX12_answered_205
    have hf := if_f c60_76 hf
    by_cases c60_80 : (st.2.1 40 ((st.2.1 49 (x1).toNatClampNeg)).toNatClampNeg) = 80
    · have hf := if_t c60_80 hf
      refine lv_tableIn (tgt := 270) hx hb dX12_answered_60 (by rw [c60_80] <;> decide) (by rw [c60_80] <;> decide) (by rw [c60_80] <;> rfl) (by decide) ?_
      refine lv_iload hx hb dX12_answered_270 (lv_at hl 0 rfl) ?_
      refine lv_if_ne (tgt := 308) hx hb dX12_answered_272 (by decide) (fun c272 => ?_) (fun c272 => ?_)
      · have hf := if_f c272 hf
        refine lv_iload hx hb dX12_answered_308 (lv_at hl 0 rfl) ?_
        refine lv_iconst (v := 1) hx hb dX12_answered_310 (by decide) ?_
        refine lv_icmp_ne (tgt := 339) hx hb dX12_answered_311 (by decide) (fun c311 => ?_) (fun c311 => ?_)
        · have hf := if_f c311 hf
          refine lv_iload_n hx hb dX12_answered_339 rfl (lv_at hl 6 rfl) ?_
          have hf := Option.some.inj hf
          subst hf
          exact ret_i F hr hk Z dX12_answered_340
        have hf := if_t c311 hf
        refine lv_iload_n hx hb dX12_answered_314 rfl (lv_at hl 6 rfl) ?_
        refine lv_iconst (v := 1) hx hb dX12_answered_315 (by decide) ?_
        refine lv_icmp_ne (tgt := 339) hx hb dX12_answered_316 (by decide) (fun c316 => ?_) (fun c316 => ?_)
        · have hf := if_f c316 hf
          refine lv_iload_n hx hb dX12_answered_339 rfl (lv_at hl 6 rfl) ?_
          have hf := Option.some.inj hf
          subst hf
          exact ret_i F hr hk Z dX12_answered_340
        have hf := if_t c316 hf
        refine lv_aload_n hx hb dX12_answered_319 rfl (lv_at hl 4 rfl) ?_
        refine lv_aload_n hx hb dX12_answered_320 rfl (lv_at hl 4 rfl) ?_
        refine gmX12_148 F K Z dX12_answered_321 ?_
        refine lv_iload_n hx hb dX12_answered_324 rfl (lv_at hl 3 rfl) ?_
        obtain ⟨i325, hf⟩ := if_some hf
        refine ml44 F K Z i325 dX12_answered_325 ?_
        refine lv_aload_n hx hb dX12_answered_326 rfl (lv_at hl 4 rfl) ?_
        refine gmX12_16 F K Z dX12_answered_327 ?_
        refine lv_iload hx hb dX12_answered_330 (lv_at hl 1 rfl) ?_
        obtain ⟨i332, hf⟩ := if_some hf
        refine ml3 F K Z i332 dX12_answered_332 ?_
        obtain ⟨q333, h333, hf⟩ := bind_some hf
        refine krX12_478_X12_askOf F K E hA Z h333 ⟨Nat.le_of_ble_eq_true rfl, Nat.le_of_ble_eq_true rfl⟩ hl.1 (Nat.le_of_ble_eq_true rfl) dX12_answered_333 (fun H locs Z => ?_)
        refine lv_goto (tgt := 340) hx hb dX12_answered_336 (by decide) ?_
        have hf := Option.some.inj hf
        subst hf
        exact ret_i F hr hk Z dX12_answered_340
      have hf := if_t c272 hf
      refine lv_aload_n hx hb dX12_answered_275 rfl (lv_at hl 4 rfl) ?_
      refine gmX12_7 F K Z dX12_answered_276 ?_
      refine lv_iload hx hb dX12_answered_279 (lv_at hl 1 rfl) ?_
      obtain ⟨i281, hf⟩ := if_some hf
      refine ml1 F K Z i281 dX12_answered_281 ?_
      refine lv_iconst (v := 3) hx hb dX12_answered_282 (by decide) ?_
      refine lv_icmp_ne (tgt := 306) hx hb dX12_answered_283 (by decide) (fun c283 => ?_) (fun c283 => ?_)
      · have hf := if_f c283 hf
        refine lv_iconst (v := 0) hx hb dX12_answered_306 (by decide) ?_
        have hf := Option.some.inj hf
        subst hf
        exact ret_i F hr hk Z dX12_answered_307
      have hf := if_t c283 hf
      refine lv_aload_n hx hb dX12_answered_286 rfl (lv_at hl 4 rfl) ?_
      refine lv_aload_n hx hb dX12_answered_287 rfl (lv_at hl 4 rfl) ?_
      refine gmX12_145 F K Z dX12_answered_288 ?_
      refine lv_iload_n hx hb dX12_answered_291 rfl (lv_at hl 3 rfl) ?_
      obtain ⟨i292, hf⟩ := if_some hf
      refine ml43 F K Z i292 dX12_answered_292 ?_
      refine lv_aload_n hx hb dX12_answered_293 rfl (lv_at hl 4 rfl) ?_
      refine gmX12_13 F K Z dX12_answered_294 ?_
      refine lv_iload hx hb dX12_answered_297 (lv_at hl 1 rfl) ?_
      obtain ⟨i299, hf⟩ := if_some hf
      refine ml2 F K Z i299 dX12_answered_299 ?_
      obtain ⟨q300, h300, hf⟩ := bind_some hf
      refine krX12_478_X12_askOf F K E hA Z h300 ⟨Nat.le_of_ble_eq_true rfl, Nat.le_of_ble_eq_true rfl⟩ hl.1 (Nat.le_of_ble_eq_true rfl) dX12_answered_300 (fun H locs Z => ?_)
      refine lv_goto (tgt := 307) hx hb dX12_answered_303 (by decide) ?_
      have hf := Option.some.inj hf
      subst hf
      exact ret_i F hr hk Z dX12_answered_307
    have hf := if_f c60_80 hf
    by_cases c60_84 : (st.2.1 40 ((st.2.1 49 (x1).toNatClampNeg)).toNatClampNeg) = 84
    · have hf := if_t c60_84 hf
      refine lv_tableIn (tgt := 186) hx hb dX12_answered_60 (by rw [c60_84] <;> decide) (by rw [c60_84] <;> decide) (by rw [c60_84] <;> rfl) (by decide) ?_
      refine lv_iload hx hb dX12_answered_186 (lv_at hl 1 rfl) ?_
      refine lv_iconst (v := 1) hx hb dX12_answered_188 (by decide) ?_
      refine lv_icmp_ne (tgt := 196) hx hb dX12_answered_189 (by decide) (fun c189 => ?_) (fun c189 => ?_)
      · have hf := if_f c189 hf
        refine lv_iconst (v := 0) hx hb dX12_answered_196 (by decide) ?_
        have hf := Option.some.inj hf
        subst hf
        exact ret_i F hr hk Z dX12_answered_197
      have hf := if_t c189 hf
      refine lv_iconst (v := 1) hx hb dX12_answered_192 (by decide) ?_
      refine lv_goto (tgt := 197) hx hb dX12_answered_193 (by decide) ?_
      have hf := Option.some.inj hf
      subst hf
      exact ret_i F hr hk Z dX12_answered_197
    have hf := if_f c60_84 hf
    by_cases c60_88 : (st.2.1 40 ((st.2.1 49 (x1).toNatClampNeg)).toNatClampNeg) = 88
    · have hf := if_t c60_88 hf
      refine lv_tableIn (tgt := 399) hx hb dX12_answered_60 (by rw [c60_88] <;> decide) (by rw [c60_88] <;> decide) (by rw [c60_88] <;> rfl) (by decide) ?_
      refine lv_iload hx hb dX12_answered_399 (lv_at hl 0 rfl) ?_
      refine lv_iconst (v := 1) hx hb dX12_answered_401 (by decide) ?_
      refine lv_icmp_ne (tgt := 409) hx hb dX12_answered_402 (by decide) (fun c402 => ?_) (fun c402 => ?_)
      · have hf := if_f c402 hf
        refine lv_aload_n hx hb dX12_answered_409 rfl (lv_at hl 4 rfl) ?_
        refine lv_aload_n hx hb dX12_answered_410 rfl (lv_at hl 4 rfl) ?_
        refine gmX12_145 F K Z dX12_answered_411 ?_
        refine lv_iload_n hx hb dX12_answered_414 rfl (lv_at hl 3 rfl) ?_
        obtain ⟨i415, hf⟩ := if_some hf
        refine ml43 F K Z i415 dX12_answered_415 ?_
        refine lv_iconst (v := 0) hx hb dX12_answered_416 (by decide) ?_
        obtain ⟨q417, h417, hf⟩ := bind_some hf
        refine krX12_478_X12_askOf F K E hA Z h417 ⟨Nat.le_of_ble_eq_true rfl, Nat.le_of_ble_eq_true rfl⟩ hl.1 (Nat.le_of_ble_eq_true rfl) dX12_answered_417 (fun H locs Z => ?_)
        have hf := Option.some.inj hf
        subst hf
        exact ret_i F hr hk Z dX12_answered_420
      have hf := if_t c402 hf
      refine lv_iload_n hx hb dX12_answered_405 rfl (lv_at hl 6 rfl) ?_
      refine lv_goto (tgt := 420) hx hb dX12_answered_406 (by decide) ?_
      have hf := Option.some.inj hf
      subst hf
      exact ret_i F hr hk Z dX12_answered_420
    have hf := if_f c60_88 hf
    refine sw_tab (tgt := 433) hx hb dX12_answered_60 (sw_any (fun j h1 h2 hj => ?_)) (by decide) ?_
    · rcases (show j = 67 ∨ j = 68 ∨ j = 69 ∨ j = 70 ∨ j = 71 ∨ j = 72 ∨ j = 73 ∨ j = 74 ∨ j = 75 ∨ j = 76 ∨ j = 77 ∨ j = 78 ∨ j = 79 ∨ j = 80 ∨ j = 81 ∨ j = 82 ∨ j = 83 ∨ j = 84 ∨ j = 85 ∨ j = 86 ∨ j = 87 ∨ j = 88 by omega) with rfl | rfl | rfl | rfl | rfl | rfl | rfl | rfl | rfl | rfl | rfl | rfl | rfl | rfl | rfl | rfl | rfl | rfl | rfl | rfl | rfl | rfl
      · exact absurd hj (lv_neT c60_67 (by decide))
      · rfl
      · rfl
      · rfl
      · rfl
      · exact absurd hj (lv_neT c60_72 (by decide))
      · exact absurd hj (lv_neT c60_73 (by decide))
      · exact absurd hj (lv_neT c60_74 (by decide))
      · rfl
      · exact absurd hj (lv_neT c60_76 (by decide))
      · rfl
      · rfl
      · rfl
      · exact absurd hj (lv_neT c60_80 (by decide))
      · rfl
      · rfl
      · rfl
      · exact absurd hj (lv_neT c60_84 (by decide))
      · rfl
      · rfl
      · rfl
      · exact absurd hj (lv_neT c60_88 (by decide))
    refine lv_iload hx hb dX12_answered_433 (lv_at hl 0 rfl) ?_
    refine lv_iconst (v := 1) hx hb dX12_answered_435 (by decide) ?_
    refine lv_icmp_ne (tgt := 453) hx hb dX12_answered_436 (by decide) (fun c436 => ?_) (fun c436 => ?_)
    · have hf := if_f c436 hf
      refine lv_aload_n hx hb dX12_answered_453 rfl (lv_at hl 4 rfl) ?_
      refine lv_iload_n hx hb dX12_answered_454 rfl (lv_at hl 3 rfl) ?_
      refine lv_iconst (v := -1) hx hb dX12_answered_455 (by decide) ?_
      obtain ⟨q456, h456, hf⟩ := bind_some hf
      refine krX12_478_X12_askOf F K E hA Z h456 ⟨Nat.le_of_ble_eq_true rfl, Nat.le_of_ble_eq_true rfl⟩ hl.1 (Nat.le_of_ble_eq_true rfl) dX12_answered_456 (fun H locs Z => ?_)
      have hf := Option.some.inj hf
      subst hf
      exact ret_i F hr hk Z dX12_answered_459
    have hf := if_t c436 hf
    refine lv_iload_n hx hb dX12_answered_439 rfl (lv_at hl 6 rfl) ?_
    refine lv_iload hx hb dX12_answered_440 (lv_at hl 1 rfl) ?_
    refine lv_icmp_ne (tgt := 449) hx hb dX12_answered_442 (by decide) (fun c442 => ?_) (fun c442 => ?_)
    · have hf := if_f c442 hf
      refine lv_iconst (v := 0) hx hb dX12_answered_449 (by decide) ?_
      refine lv_goto (tgt := 459) hx hb dX12_answered_450 (by decide) ?_
      have hf := Option.some.inj hf
      subst hf
      exact ret_i F hr hk Z dX12_answered_459
    have hf := if_t c442 hf
    refine lv_iconst (v := 1) hx hb dX12_answered_445 (by decide) ?_
    refine lv_goto (tgt := 459) hx hb dX12_answered_446 (by decide) ?_
    have hf := Option.some.inj hf
    subst hf
    exact ret_i F hr hk Z dX12_answered_459
  have hf := if_f c43 hf
  refine lv_aload_n hx hb dX12_answered_46 rfl (lv_at hl 4 rfl) ?_
  refine lv_iload_n hx hb dX12_answered_47 rfl (lv_at hl 5 rfl) ?_
  refine lv_iload_n hx hb dX12_answered_48 rfl (lv_at hl 3 rfl) ?_
  refine lv_iload hx hb dX12_answered_49 (lv_at hl 2 rfl) ?_
  refine lv_iload hx hb dX12_answered_51 (lv_at hl 0 rfl) ?_
  refine lv_iload_n hx hb dX12_answered_53 rfl (lv_at hl 6 rfl) ?_
  obtain ⟨q54, h54, hf⟩ := bind_some hf
  refine krX12_475_X12_has F K E hA Z h54 ⟨Nat.le_of_ble_eq_true rfl, Nat.le_of_ble_eq_true rfl⟩ hl.1 (Nat.le_of_ble_eq_true rfl) dX12_answered_54 (fun H locs Z => ?_)
  have hf := Option.some.inj hf
  subst hf
  exact ret_i F hr hk Z dX12_answered_57
def f_X12_isProof_17 (n : Nat) : Nat → StT → Int32 → Option (Int32 × StT)
  | 0, _, _ => none
  | k + 1, st, x3 => if (st.1 35) ≤ 0 then (if x3 = (1 : Int32) then (some ((1 : Int32), st)) else (some ((0 : Int32), st))) else ((f_X12_answered n st ((st.1 35) - (1 : Int32)) x3).bind fun q36 => (if q36.1 = (-2 : Int32) then (f_X12_isProof_17 n k q36.2 q36.1) else (f_X12_isProof_17 n k (uF q36.2 35 ((st.1 35) - (1 : Int32))) q36.1)))
def f_X12_isProof (n : Nat) (st : StT) (x1 : Int32) (x2 : Int32) : Option (Int32 × StT) := (f_X12_askOf n (uF (uF st 35 (0 : Int32)) 1 (0 : Int32)) x1 x2).bind fun q13 => (f_X12_isProof_17 n n q13.2 q13.1)
theorem wd1308 : Cond.methodLink RX12 487 yX12_answered ∈ Gw := gT8 (List.mem_of_getElem? (i := 201) rfl) rfl
theorem wd1309 : Cond.code yX12_answered prog_14_method_62_code 7 (some .int) ∈ Gw := gT8 (List.mem_of_getElem? (i := 204) rfl) rfl
theorem wd1310 : Cond.instanceMethod yX12_answered ∈ Gw := gT8 (List.mem_of_getElem? (i := 203) rfl) rfl
theorem wd1311 : Cond.selects RX12 yX12_answered yX12_answered ∈ Gw := gP9 (q := (yX12_answered, 98)) (List.mem_of_getElem? (i := 1) rfl)
section
variable {p : Program} {l : Launch} {e : Env} {R : Room} {s : State} {m : MethodId} {args : Array Value} {below : List Frame} {meth : Method} {c : Code} {H : Heap} {locs : List Loc} {Q : State → Prop}
variable {cc : ByteArray} {nL pc : Nat} {ls : Array Slot} {rest : List Value} {D : va_G} {A : Nat → Prop} {cw : Cond} {ad : Nat → Nat} {cy : Nat → ClassId} {ee : EE} {st : StT} {own : String}
theorem krX12_487_X12_answered {n : Nat} {a0 : Int32} {a1 : Int32} {q : (Int32 × StT)} (F : CallFix p m c cc nL s args (cw :: Gw) RX12) (K : va_K D vwCl (tyL cy) s) (E : EV ee A s s.heap) (hA : ∀ q, s.heap.size ≤ q → A q) (Z : ZG D (wM ad cy st) A s H locs) (hf : f_X12_answered n st a0 a1 = some q) (hR : 4 ≤ R.frames ∧ 100 ≤ R.locals) (hl : ls.size = nL) (hst : (rest.map fun v => v.category).sum ≤ 8) (hd : decode cc pc = .ok (.invokevirtual 487, 3)) (kk : ∀ (H1 : Heap) (locs1 : List Loc), ZG D (wM ad cy q.2) A s H1 locs1 → W p l e R s m args below meth c H1 locs1 0 0 Q (F0 m (pc + 3) ls (.int q.1 :: rest))) : W p l e R s m args below meth c H locs 0 0 Q (F0 m pc ls (.int a1 :: .int a0 :: .ref (ad 0) :: rest)) :=
  call_V (q := (RX12, TX12, 98)) (n := 2) (As := [.int a0, .int a1]) (rv := some (.int q.1)) 0 12 F K E hA Z (c_X12_answered (l := l) (D := D) (ad := ad) (cy := cy) (ee := ee) hf) ⟨wd1309, wd1308, wd1310, wd1311, wd1008⟩ (by decide +kernel) rfl rfl hR rfl hl hst hd kk
end
set_option maxRecDepth 100000 in
set_option maxHeartbeats 4000000 in
theorem b_X12_isProof_17 {p : Program} {l : Launch} {e : Env} {s : State} {m : MethodId} {args : Array Value} {below : List Frame} {meth : Method} {c : Code} {D : va_G} {A : Nat → Prop} {ad : Nat → Nat} {cy : Nat → ClassId} {ee : EE} {n : Nat} {res : (Int32 × StT)} (F : CallFix p m c cX12_isProof 6 s args (Cond.code yX12_isProof cX12_isProof 6 (some .boolean) :: Gw) yX12_isProof.cls) (hr : meth.sig.returnType = (some .boolean)) (hk : meth.locks = false) (K : va_K D vwCl (tyL cy) s) (E : EV ee A s s.heap) (hA : ∀ q, s.heap.size ≤ q → A q) : ∀ (k : Nat) (st : StT) (x3 : Int32), f_X12_isProof_17 n k st x3 = some res → ∀ (H : Heap) (locs : List Loc) (ls : Array Slot), ZG D (wM ad cy st) A s H locs → lv_has ls 6 [(0, .ref (ad 0)), (3, .int x3)] → W p l e { frames := 4, cells := 0, slots := 0, locals := 100 } s m args below meth c H locs 0 0 (MQ below (QC D (some (.int res.1)) (wM ad cy res.2) A) args s 0 0 A) (F0 m 17 ls []) := by
  have hx := F.1
  have hb := F.2.1
  intro k
  induction k with
  | zero =>
    intro st x3 hf
    exact absurd hf (by simp [f_X12_isProof_17])
  | succ k ih =>
    intro st x3 hf H locs ls Z hl
    rw [f_X12_isProof_17] at hf
    refine lv_aload_n hx hb dX12_isProof_17 rfl (lv_at hl 0 rfl) ?_
    refine gmX12_472 F K Z dX12_isProof_18 ?_
    refine lv_if_le (tgt := 60) hx hb dX12_isProof_21 (by decide) (fun c21 => ?_) (fun c21 => ?_)
    · have hf := if_t c21 hf
      refine lv_iload_n hx hb dX12_isProof_60 rfl (lv_at hl 1 rfl) ?_
      refine lv_iconst (v := 1) hx hb dX12_isProof_61 (by decide) ?_
      refine lv_icmp_ne (tgt := 69) hx hb dX12_isProof_62 (by decide) (fun c62 => ?_) (fun c62 => ?_)
      · have hf := if_f c62 hf
        refine lv_iconst (v := 0) hx hb dX12_isProof_69 (by decide) ?_
        have hf := Option.some.inj hf
        subst hf
        exact ret_z F hr hk Z rfl dX12_isProof_70
      have hf := if_t c62 hf
      refine lv_iconst (v := 1) hx hb dX12_isProof_65 (by decide) ?_
      refine lv_goto (tgt := 70) hx hb dX12_isProof_66 (by decide) ?_
      have hf := Option.some.inj hf
      subst hf
      exact ret_z F hr hk Z rfl dX12_isProof_70
    have hf := if_f c21 hf
    refine lv_aload_n hx hb dX12_isProof_24 rfl (lv_at hl 0 rfl) ?_
    refine gmX12_472 F K Z dX12_isProof_25 ?_
    refine lv_iconst (v := 1) hx hb dX12_isProof_28 (by decide) ?_
    refine lv_isub hx hb dX12_isProof_29 ?_
    refine lv_istore (lv' := [(4, .int ((st.1 35) - (1 : Int32))), (0, .ref (ad 0)), (3, .int x3)]) hx hb dX12_isProof_30 hl (by decide) rfl (fun ls hl => ?_)
    refine lv_aload_n hx hb dX12_isProof_32 rfl (lv_at hl 1 rfl) ?_
    refine lv_iload hx hb dX12_isProof_33 (lv_at hl 0 rfl) ?_
    refine lv_iload_n hx hb dX12_isProof_35 rfl (lv_at hl 2 rfl) ?_
    obtain ⟨q36, h36, hf⟩ := bind_some hf
    refine krX12_487_X12_answered F K E hA Z h36 ⟨Nat.le_of_ble_eq_true rfl, Nat.le_of_ble_eq_true rfl⟩ hl.1 (Nat.le_of_ble_eq_true rfl) dX12_isProof_36 (fun H locs Z => ?_)
    refine lv_istore (lv' := [(5, .int q36.1), (4, .int ((st.1 35) - (1 : Int32))), (0, .ref (ad 0)), (3, .int x3)]) hx hb dX12_isProof_39 hl (by decide) rfl (fun ls hl => ?_)
    refine lv_iload hx hb dX12_isProof_41 (lv_at hl 0 rfl) ?_
    refine lv_istore_n (lv' := [(3, .int q36.1), (5, .int q36.1), (4, .int ((st.1 35) - (1 : Int32))), (0, .ref (ad 0))]) hx hb dX12_isProof_43 rfl hl (by decide) rfl (fun ls hl => ?_)
    refine lv_iload hx hb dX12_isProof_44 (lv_at hl 1 rfl) ?_
    refine lv_bipush (v := -2) hx hb dX12_isProof_46 (by decide) ?_
    refine lv_icmp_eq (tgt := 57) hx hb dX12_isProof_48 (by decide) (fun c48 => ?_) (fun c48 => ?_)
    · have hf := if_t c48 hf
      refine lv_goto (tgt := 17) hx hb dX12_isProof_57 (by decide) ?_
      exact ih _ _ hf _ _ _ Z (lv_sub hl [3, 0] rfl)
    have hf := if_f c48 hf
    refine lv_aload_n hx hb dX12_isProof_51 rfl (lv_at hl 3 rfl) ?_
    refine lv_iload hx hb dX12_isProof_52 (lv_at hl 2 rfl) ?_
    refine pmX12_472 F K Z dX12_isProof_54 (fun H locs Z => ?_)
    refine lv_goto (tgt := 17) hx hb dX12_isProof_57 (by decide) ?_
    exact ih _ _ hf _ _ _ Z (lv_sub hl [3, 0] rfl)
set_option maxRecDepth 100000 in
set_option maxHeartbeats 4000000 in
theorem c_X12_isProof {l : Launch} {D : va_G} {ad : Nat → Nat} {cy : Nat → ClassId} {ee : EE} {n : Nat} {st : StT} {x1 : Int32} {x2 : Int32} {res : (Int32 × StT)} (hf : f_X12_isProof n st x1 x2 = some res) : CT l yX12_isProof cX12_isProof 6 (some .boolean) 4 100 D cy ee (wM ad cy st) (wM ad cy res.2) [.ref (ad 0), .int x1, .int x2] (some (.int res.1)) := by
  refine CT.of (by decide +kernel) (Nat.le_of_ble_eq_true rfl) ?_
  intro p e s m args below meth c A F hr hk K E hA Z ls hl
  have hl : lv_has ls 6 [(0, .ref (ad 0)), (1, .int x1), (2, .int x2)] := hl
  have hx := F.1
  have hb := F.2.1
  unfold f_X12_isProof at hf
  refine lv_aload_n hx hb dX12_isProof_0 rfl (lv_at hl 0 rfl) ?_
  refine lv_iconst (v := 0) hx hb dX12_isProof_1 (by decide) ?_
  refine pmX12_472 F K Z dX12_isProof_2 (fun H locs Z => ?_)
  refine lv_aload_n hx hb dX12_isProof_5 rfl (lv_at hl 0 rfl) ?_
  refine lv_iconst (v := 0) hx hb dX12_isProof_6 (by decide) ?_
  refine pmX12_469 F K Z dX12_isProof_7 (fun H locs Z => ?_)
  refine lv_aload_n hx hb dX12_isProof_10 rfl (lv_at hl 0 rfl) ?_
  refine lv_iload_n hx hb dX12_isProof_11 rfl (lv_at hl 1 rfl) ?_
  refine lv_iload_n hx hb dX12_isProof_12 rfl (lv_at hl 2 rfl) ?_
  obtain ⟨q13, h13, hf⟩ := bind_some hf
  refine krX12_478_X12_askOf F K E hA Z h13 ⟨Nat.le_of_ble_eq_true rfl, Nat.le_of_ble_eq_true rfl⟩ hl.1 (Nat.le_of_ble_eq_true rfl) dX12_isProof_13 (fun H locs Z => ?_)
  refine lv_istore_n (lv' := [(3, .int q13.1), (0, .ref (ad 0)), (1, .int x1), (2, .int x2)]) hx hb dX12_isProof_16 rfl hl (by decide) rfl (fun ls hl => ?_)
  exact b_X12_isProof_17 F hr hk K E hA _ _ _ hf _ _ _ Z (lv_sub hl [1, 0] rfl)
