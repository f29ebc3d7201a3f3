/-! ===== the words that every method is given: all good ones of the tables ===== -/
def Gw : List Cond := lw_tbl.filter goodWord
theorem gw_of {w : Cond} (h : w ∈ lw_tbl) (hg : goodWord w = true) : w ∈ Gw := List.mem_filter.mpr ⟨h, hg⟩
theorem gw_good : ∀ w ∈ Gw, ((w.onTables && w.keeps) = true ∨ ∃ ty, w = .arrayClass ty) := fun _ h => good_of_word (List.mem_filter.mp h).2
theorem gw_in : ∀ w ∈ Gw, w ∈ lw_tbl := fun _ h => (List.mem_filter.mp h).1
theorem gT1 {w : Cond} (h : w ∈ tables_1_1) (hg : goodWord w = true) : w ∈ Gw := gw_of (List.mem_append_right _ (List.mem_append_left _ h)) hg
theorem gT2 {w : Cond} (h : w ∈ tables_1_2) (hg : goodWord w = true) : w ∈ Gw := gw_of (List.mem_append_right _ (List.mem_append_right _ (List.mem_append_left _ h))) hg
theorem gT3 {w : Cond} (h : w ∈ tables_1_3) (hg : goodWord w = true) : w ∈ Gw := gw_of (List.mem_append_right _ (List.mem_append_right _ (List.mem_append_right _ (List.mem_append_left _ h)))) hg
theorem gT4 {w : Cond} (h : w ∈ tables_1_4) (hg : goodWord w = true) : w ∈ Gw := gw_of (List.mem_append_right _ (List.mem_append_right _ (List.mem_append_right _ (List.mem_append_right _ (List.mem_append_left _ h))))) hg
theorem gT5 {w : Cond} (h : w ∈ tables_1_5) (hg : goodWord w = true) : w ∈ Gw := gw_of (List.mem_append_right _ (List.mem_append_right _ (List.mem_append_right _ (List.mem_append_right _ (List.mem_append_right _ (List.mem_append_left _ h)))))) hg
theorem gT6 {w : Cond} (h : w ∈ tables_1_6) (hg : goodWord w = true) : w ∈ Gw := gw_of (List.mem_append_right _ (List.mem_append_right _ (List.mem_append_right _ (List.mem_append_right _ (List.mem_append_right _ (List.mem_append_right _ (List.mem_append_left _ h))))))) hg
theorem gT7 {w : Cond} (h : w ∈ tables_1_7) (hg : goodWord w = true) : w ∈ Gw := gw_of (List.mem_append_right _ (List.mem_append_right _ (List.mem_append_right _ (List.mem_append_right _ (List.mem_append_right _ (List.mem_append_right _ (List.mem_append_right _ (List.mem_append_left _ h)))))))) hg
theorem gT8 {w : Cond} (h : w ∈ tables_1_8) (hg : goodWord w = true) : w ∈ Gw := gw_of (List.mem_append_right _ (List.mem_append_right _ (List.mem_append_right _ (List.mem_append_right _ (List.mem_append_right _ (List.mem_append_right _ (List.mem_append_right _ (List.mem_append_right _ (h))))))))) hg
theorem gP1 {q : MethodName × Nat} (h : q ∈ lw_privs_1) : Cond.selects q.1.cls q.1 q.1 ∈ Gw := gw_of (List.mem_append_left _ (List.mem_map.mpr ⟨q, List.mem_append_left _ h, rfl⟩)) rfl
theorem gP2 {q : MethodName × Nat} (h : q ∈ lw_privs_2) : Cond.selects q.1.cls q.1 q.1 ∈ Gw := gw_of (List.mem_append_left _ (List.mem_map.mpr ⟨q, List.mem_append_right _ (List.mem_append_left _ h), rfl⟩)) rfl
theorem gP3 {q : MethodName × Nat} (h : q ∈ lw_privs_3) : Cond.selects q.1.cls q.1 q.1 ∈ Gw := gw_of (List.mem_append_left _ (List.mem_map.mpr ⟨q, List.mem_append_right _ (List.mem_append_right _ (List.mem_append_left _ h)), rfl⟩)) rfl
theorem gP4 {q : MethodName × Nat} (h : q ∈ lw_privs_4) : Cond.selects q.1.cls q.1 q.1 ∈ Gw := gw_of (List.mem_append_left _ (List.mem_map.mpr ⟨q, List.mem_append_right _ (List.mem_append_right _ (List.mem_append_right _ (List.mem_append_left _ h))), rfl⟩)) rfl
theorem gP5 {q : MethodName × Nat} (h : q ∈ lw_privs_5) : Cond.selects q.1.cls q.1 q.1 ∈ Gw := gw_of (List.mem_append_left _ (List.mem_map.mpr ⟨q, List.mem_append_right _ (List.mem_append_right _ (List.mem_append_right _ (List.mem_append_right _ (List.mem_append_left _ h)))), rfl⟩)) rfl
theorem gP6 {q : MethodName × Nat} (h : q ∈ lw_privs_6) : Cond.selects q.1.cls q.1 q.1 ∈ Gw := gw_of (List.mem_append_left _ (List.mem_map.mpr ⟨q, List.mem_append_right _ (List.mem_append_right _ (List.mem_append_right _ (List.mem_append_right _ (List.mem_append_right _ (List.mem_append_left _ h))))), rfl⟩)) rfl
theorem gP7 {q : MethodName × Nat} (h : q ∈ lw_privs_7) : Cond.selects q.1.cls q.1 q.1 ∈ Gw := gw_of (List.mem_append_left _ (List.mem_map.mpr ⟨q, List.mem_append_right _ (List.mem_append_right _ (List.mem_append_right _ (List.mem_append_right _ (List.mem_append_right _ (List.mem_append_right _ (List.mem_append_left _ h)))))), rfl⟩)) rfl
theorem gP8 {q : MethodName × Nat} (h : q ∈ lw_privs_8) : Cond.selects q.1.cls q.1 q.1 ∈ Gw := gw_of (List.mem_append_left _ (List.mem_map.mpr ⟨q, List.mem_append_right _ (List.mem_append_right _ (List.mem_append_right _ (List.mem_append_right _ (List.mem_append_right _ (List.mem_append_right _ (List.mem_append_right _ (List.mem_append_left _ h))))))), rfl⟩)) rfl
theorem gP9 {q : MethodName × Nat} (h : q ∈ lw_privs_9) : Cond.selects q.1.cls q.1 q.1 ∈ Gw := gw_of (List.mem_append_left _ (List.mem_map.mpr ⟨q, List.mem_append_right _ (List.mem_append_right _ (List.mem_append_right _ (List.mem_append_right _ (List.mem_append_right _ (List.mem_append_right _ (List.mem_append_right _ (List.mem_append_right _ (h)))))))), rfl⟩)) rfl
/-! ===== base: states as numbered rows, the environment, contracts over a whole world ===== -/
abbrev StT : Type := (Nat → Int32) × (Nat → Nat → Int32) × (Nat → Int64) × (Nat → Nat → Int64)
def uF (s : StT) (k : Nat) (v : Int32) : StT := (fun j => if j = k then v else s.1 j, s.2)
def uA (s : StT) (k : Nat) (i : Int32) (v : Int32) : StT := (s.1, (fun j => if j = k then upd (s.2.1 j) i.toNatClampNeg v else s.2.1 j), s.2.2)
def uL (s : StT) (k : Nat) (v : Int64) : StT := (s.1, s.2.1, (fun j => if j = k then v else s.2.2.1 j), s.2.2.2)
def uM (s : StT) (k : Nat) (i : Int32) (v : Int64) : StT := (s.1, s.2.1, s.2.2.1, fun j => if j = k then vp_updL (s.2.2.2 j) i.toNatClampNeg v else s.2.2.2 j)
def inB (i : Int32) (n : Nat) : Bool := decide (¬ (i < 0 ∨ n ≤ i.toNatClampNeg))
theorem inB_vp {i : Int32} {n : Nat} (h : inB i n = true) : vp_in i n := (of_decide_eq_true (p := ¬ (i < 0 ∨ n ≤ i.toNatClampNeg)) h : ¬ (i < 0 ∨ n ≤ i.toNatClampNeg))
def isZ (v : Int32) : Bool := decide (v = 0 ∨ v = 1)
theorem isZ_nar {v : Int32} (h : isZ v = true) : narrow .boolean (.int v) = .int v := by
  rcases (of_decide_eq_true h : v = 0 ∨ v = 1) with rfl | rfl <;> rfl
theorem isZ_fit {v : Int32} (h : isZ v = true) : fits .boolean (.int v) = true := by
  rcases (of_decide_eq_true h : v = 0 ∨ v = 1) with rfl | rfl <;> rfl
theorem if_t {α : Type} {c : Prop} [Decidable c] {x y : Option α} {r : α} (h : c) (hf : (if c then x else y) = some r) : x = some r := by rw [if_pos h] at hf; exact hf
theorem if_f {α : Type} {c : Prop} [Decidable c] {x y : Option α} {r : α} (h : ¬ c) (hf : (if c then x else y) = some r) : y = some r := by rw [if_neg h] at hf; exact hf
theorem if_no {α : Type} {c : Prop} [Decidable c] {x : Option α} {r : α} (hf : (if c then none else x) = some r) : ¬ c ∧ x = some r := by
  by_cases h : c
  · rw [if_pos h] at hf; cases hf
  · rw [if_neg h] at hf; exact ⟨h, hf⟩
theorem sw_out {x : Int32} {lo hi : Int} (h1 : (lo : Int) ≤ hi) (_h2 : True) (h : ∀ j : Int, lo ≤ j → j ≤ hi → ¬ x.toInt = j) : x.toInt < lo ∨ hi < x.toInt := by
  by_cases a : x.toInt < lo
  · exact Or.inl a
  · by_cases b : hi < x.toInt
    · exact Or.inr b
    · exact absurd rfl (h x.toInt (by omega) (by omega))
theorem if_some {α : Type} {b : Bool} {x : Option α} {y : α} (h : (if b = true then x else none) = some y) : b = true ∧ x = some y := by
  cases b with
  | true => exact ⟨rfl, by simpa using h⟩
  | false => simp at h
theorem bind_some {α β : Type} {x : Option α} {f : α → Option β} {y : β} (h : x.bind f = some y) : ∃ a, x = some a ∧ f a = some y := by
  cases x with
  | none => simp at h
  | some a => exact ⟨a, rfl, h⟩
def tyL (cy : Nat → ClassId) : List (ClassId × FieldType) := [(cy 0, .byte), (cy 1, .int), (cy 2, .long), (cy 3, .boolean)]
abbrev EE : Type := (Nat → Nat) × (Nat → Nat) × Nat
def nestT : List (Nat × String × String × String) := [(56, "WorldProver$Reader", "terms", "LWorldProver$Terms;"), (92, "WorldProver$Reader", "fault", "I"), (96, "WorldProver$Reader", "faultPlace", "I"), (143, "WorldProver$Sequents", "most", "I"), (154, "WorldProver$Search", "terms", "LWorldProver$Terms;"), (139, "WorldProver$Search", "sequents", "LWorldProver$Sequents;"), (172, "WorldProver$Search", "refutations", "LWorldProver$Refutations;"), (136, "WorldProver$Search", "steps", "I"), (148, "WorldProver$Search", "deepest", "I"), (151, "WorldProver$Search", "answer", "I"), (158, "WorldProver$Search", "givenMany", "I"), (155, "WorldProver$Search", "found", "I")]
def strLen : List Nat := [5, 11, 4, 5, 2]
def strByt : List (List Int32) := [[40, 41, 38, 124, 126], [44, 84, 76, 65, 80, 70, 83, 73, 74, 67, 88], [116, 114, 117, 101], [102, 97, 108, 115, 101], [45, 62]]
def pats : List Int64 := [-6148914691236517206, -3689348814741910324, -1085102592571150096, -71777214294589696, -281470681808896, -4294967296]
/-- what a start holds beside the worlds: links within the nest, String constants, statics -/
def EV (ee : EE) (A : Nat → Prop) (U : State) (H : Heap) : Prop :=
  (∀ q ∈ nestT, va_Nw (.fieldLinkNest "WorldProver" q.1 q.2.1 q.2.2.1 q.2.2.2 "WorldProver") U) ∧
  vk_S 5 strLen strByt ee.1 ee.2.1 A U H ∧
  (vk_R "WorldProver$Tokens" 64 "()&|~" (ee.1 0) U ∧ vk_R "WorldProver$Tokens" 71 ",TLAPFSIJCX" (ee.1 1) U ∧ vk_R "WorldProver$Writer" 105 "true" (ee.1 2) U ∧ vk_R "WorldProver$Writer" 107 "false" (ee.1 3) U ∧ vk_R "WorldProver$Writer" 113 "->" (ee.1 4) U) ∧
  va_Z "java/lang/String" "COMPACT_STRINGS" "Z" (.int 1) A U H ∧
  va_Zq "jdk/internal/util/Preconditions" "SIOOBE_FORMATTER" "Ljava/util/function/BiFunction;" A U H ∧
  (va_Z "WorldProver$Parts" "PATTERNS" "[J" (.ref ee.2.2) A U H ∧ va_T .long ee.2.2 6 (fun j => .long (pats.getD j 0)) A U H)
theorem EV.warm {ee : EE} {A : Nat → Prop} {s U : State} {H : Heap} (hW : s.WarmedH U.vm) (h : EV ee A s H) : EV ee A U H := by
  obtain ⟨h1, h2, ⟨r1, r2, r3, r4, r5⟩, h4, h5, h6, h7⟩ := h
  exact ⟨fun q hq => va_Nw.warmF hW (h1 q hq), h2.moved hW.alike, ⟨r1.warm hW, r2.warm hW, r3.warm hW, r4.warm hW, r5.warm hW⟩, h4.moved hW.alike, h5.moved hW.alike, h6.moved hW.alike, h7.moved hW.alike⟩
theorem EV.same {ee : EE} {A : Nat → Prop} {u U : State} {H : Heap} (hv : U.vm = u.vm) (h : EV ee A u H) : EV ee A U H := by
  obtain ⟨h1, h2, ⟨r1, r2, r3, r4, r5⟩, h4, h5, h6, h7⟩ := h
  have ha : u.vm.Alike U.vm := by rw [hv]; exact Vm.Alike.refl _
  exact ⟨fun q hq => va_Nw.same rfl hv.symm (h1 q hq), h2.moved ha, ⟨r1.same hv, r2.same hv, r3.same hv, r4.same hv, r5.same hv⟩, h4.moved ha, h5.moved ha, h6.moved ha, h7.moved ha⟩
theorem EV.kept {ee : EE} {A : Nat → Prop} {U : State} {H H1 : Heap} (hq : ∀ a : Nat, a < H.size → ¬ A a → H1[a]? = H[a]?) (h : EV ee A U H) : EV ee A U H1 := by
  obtain ⟨h1, h2, h3, h4, h5, h6, h7⟩ := h
  exact ⟨h1, h2.kept hq, h3, h4.kept hq, h5.kept hq, h6.kept hq, h7.kept hq⟩
theorem EV.narrow {ee : EE} {A B : Nat → Prop} {U : State} {H : Heap} (hAB : ∀ q, B q → A q) (h : EV ee A U H) : EV ee B U H := by
  obtain ⟨h1, h2, h3, h4, h5, h6, h7⟩ := h
  exact ⟨h1, h2.narrow hAB, h3, h4.narrow hAB, h5.narrow hAB, h6.narrow hAB, h7.narrow hAB⟩
/-- the world w stands in H, within A, and outside A nothing has changed since s -/
def ZG (D : va_G) (w : va_W) (A : Nat → Prop) (s : State) (H : Heap) (locs : List Loc) : Prop := va_P D vwCl w H ∧ va_D A w ∧ va_S A s.heap H locs
def QC (D : va_G) (rv : Option Value) (w' : va_W) (A : Nat → Prop) : Array Value → State → Outcome → State → Prop := fun _ st0 oc t => (oc = .returned rv ∧ va_P D vwCl w' t.heap ∧ va_D A w') ∧ va_F A st0 t
def CT (l : Launch) (y : MethodName) (bytes : ByteArray) (maxL : Nat) (ret : Option FieldType) (fr lo : Nat) (D : va_G) (cy : Nat → ClassId) (ee : EE) (w w' : va_W) (As : List Value) (rv : Option Value) : Prop :=
  ∀ sz : Nat, Met l y (.code y bytes maxL ret :: Gw) { frames := fr, cells := 0, slots := 0, locals := lo } (va_Pc As (fun U => U.heap.size = sz ∧ va_P D vwCl w U.heap ∧ va_K D vwCl (tyL cy) U ∧ va_D (fun _ => True) w ∧ EV ee (va_A w sz) U U.heap)) (QC D rv w' (va_A w sz)) 0 0 (va_A w sz)
theorem CT.of {l : Launch} {y : MethodName} {bytes : ByteArray} {maxL : Nat} {ret : Option FieldType} {fr lo : Nat} {D : va_G} {cy : Nat → ClassId} {ee : EE} {w w' : va_W} {As : List Value} {rv : Option Value} (hy : plainName y.cls = true) (hlen : (lg_sl As).length ≤ maxL)
    (body : ∀ (p : Program) (e : Env) (s : State) (m : MethodId) (args : Array Value) (below : List Frame) (meth : Method) (c : Code) (A : Nat → Prop), CallFix p m c bytes maxL s args (.code y bytes maxL ret :: Gw) y.cls → meth.sig.returnType = ret → meth.locks = false → va_K D vwCl (tyL cy) s → EV ee A s s.heap → (∀ q, s.heap.size ≤ q → A q) → ZG D w A s s.heap [] → ∀ ls : Array Slot, lv_has ls maxL (lv_args 0 As) →
      W p l e { frames := fr, cells := 0, slots := 0, locals := lo } s m args below meth c s.heap [] 0 0 (MQ below (QC D rv w' A) args s 0 0 A) (F0 m 0 ls [])) : CT l y bytes maxL ret fr lo D cy ee w w' As rv := by
  intro sz
  refine Met.ofW (cc := bytes) (maxL := maxL) (ret := ret) hy rfl ?_
  intro p e s m args below meth c s₁ B hml hv
  obtain ⟨rfl, hsz, hP, hK, hD0, hE⟩ := hv
  subst hsz
  have hts := atoms_spec (ws := .code y bytes maxL ret :: Gw) B.pre
  have hl := lv_entry As hlen
  rw [lg_entry_eq]
  exact body p e s m As.toArray below meth c (va_A w s.heap.size) ⟨B.exec, B.bytes, hml, findClass_of_methodNamed B.named, hts⟩ B.returns B.notSynchronized hK hE (fun q h => Or.inr h) ⟨hP, hD0.self, va_S.rf⟩ _ hl
theorem mth_w1 : Cond.static Lib.Math.max.name ∈ Gw := gT1 (List.mem_of_getElem? (i := 70) rfl) rfl
theorem mth_w2 : Cond.static Lib.Math.min.name ∈ Gw := gT3 (List.mem_of_getElem? (i := 41) rfl) rfl
theorem mth_w3 : Cond.initialized "java/lang/Math" ∈ Gw := gT1 (List.mem_of_getElem? (i := 4) rfl) rfl
theorem mth_w4 : Cond.code Lib.Math.max.name Lib.Math.max.code 2 (some .int) ∈ Gw := gT1 (List.mem_of_getElem? (i := 71) rfl) rfl
theorem mth_w5 : Cond.code Lib.Math.min.name Lib.Math.min.code 2 (some .int) ∈ Gw := gT3 (List.mem_of_getElem? (i := 42) rfl) rfl
section BASE
variable {p : Program} {l : Launch} {e : Env} {R : Room} {s : State} {m : MethodId} {args : Array Value} {below : List Frame} {meth : Method} {c : Code} {H : Heap} {locs : List Loc} {Q : State → Prop}
variable {cc : ByteArray} {nL pc : Nat} {ls : Array Slot} {rest : List Value} {D : va_G} {A : Nat → Prop} {w w' : va_W} {Ts : List Cond} {own : String}
theorem ret_i {v : Int32} (F : CallFix p m c cc nL s args Ts own) (hr : meth.sig.returnType = some .int) (hk : meth.locks = false) (Z : ZG D w' A s H locs) (hdg : decode cc pc = .ok (.ireturn, 1)) : W p l e R s m args below meth c H locs 0 0 (MQ below (QC D (some (.int v)) w' A) args s 0 0 A) (F0 m pc ls [.int v]) :=
  W.iret F.1 F.2.1 hr (fun t ht _ => ⟨⟨rfl, by rw [ht]; exact Z.1, Z.2.1⟩, Z.2.2.F ht⟩) Z.2.2.2.2 hdg hk
theorem ret_z {v : Int32} (F : CallFix p m c cc nL s args Ts own) (hr : meth.sig.returnType = some .boolean) (hk : meth.locks = false) (Z : ZG D w' A s H locs) (hz : isZ v = true) (hdg : decode cc pc = .ok (.ireturn, 1)) : W p l e R s m args below meth c H locs 0 0 (MQ below (QC D (some (.int v)) w' A) args s 0 0 A) (F0 m pc ls [.int v]) :=
  W.zret F.1 F.2.1 hr (isZ_nar hz) (fun t ht _ => ⟨⟨rfl, by rw [ht]; exact Z.1, Z.2.1⟩, Z.2.2.F ht⟩) Z.2.2.2.2 hdg hk
theorem ret_l {v : Int64} (F : CallFix p m c cc nL s args Ts own) (hr : meth.sig.returnType = some .long) (hk : meth.locks = false) (Z : ZG D w' A s H locs) (hdg : decode cc pc = .ok (.lreturn, 1)) : W p l e R s m args below meth c H locs 0 0 (MQ below (QC D (some (.long v)) w' A) args s 0 0 A) (F0 m pc ls [.long v]) :=
  W.lret F.1 F.2.1 hr (fun t ht _ => ⟨⟨rfl, by rw [ht]; exact Z.1, Z.2.1⟩, Z.2.2.F ht⟩) Z.2.2.2.2 hdg hk
theorem ret_v (F : CallFix p m c cc nL s args Ts own) (hr : meth.sig.returnType = none) (hk : meth.locks = false) (Z : ZG D w' A s H locs) (hdg : decode cc pc = .ok (.return_, 1)) : W p l e R s m args below meth c H locs 0 0 (MQ below (QC D none w' A) args s 0 0 A) (F0 m pc ls []) :=
  W.vret F.1 F.2.1 hr (fun t ht _ => ⟨⟨rfl, by rw [ht]; exact Z.1, Z.2.1⟩, Z.2.2.F ht⟩) Z.2.2.2.2 hdg hk
theorem good_of {cw cy : Cond} {ws : List Cond} (hy : cy ∈ Gw) (hw : ∀ w ∈ ws, w ∈ Gw) : GoodIn (cw :: Gw) (ws ++ (cy :: Gw)) := fun w h => by
  have h1 : w ∈ Gw := by
    rcases List.mem_append.mp h with h | h
    · exact hw w h
    · rcases List.mem_cons.mp h with h | h
      · rw [h]; exact hy
      · exact h
  exact ⟨List.mem_cons_of_mem _ h1, gw_good w h1⟩
theorem call_go {H : Heap} {locs : List Loc} {st0 : List Value} {a : Array Value} {A1 : Nat → Prop} {rv : Option Value} (hr : va_Run p l e R s m args below meth c H locs 0 0 0 0 (F0 m pc ls st0) rest (QC D rv w' A1 a) A1) (hS : va_S A s.heap H locs) (hA : ∀ q, A1 q → A q)
    (kk : ∀ (H1 : Heap) (locs1 : List Loc), ZG D w' A s H1 locs1 → W p l e R s m args below meth c H1 locs1 0 0 Q (F0 m (pc + 3) ls (rv.toList ++ rest))) : W p l e R s m args below meth c H locs 0 0 Q (F0 m pc ls st0) := by
  intro T hT X
  obtain ⟨v, st₀, t, T', L, h0, X', hL, e1, e2, ⟨⟨hv, hP, hD⟩, hz, hk⟩, st⟩ := hr T hT X
  cases hv
  rw [h0] at hz hk
  obtain ⟨t2, a1, b1⟩ := kk T'.heap (locs ++ L) ⟨by rw [e1]; exact hP, hD.weaken (fun _ _ _ h => hA _ h), Nat.le_trans hS.1 (by rw [e1]; exact hz), fun q h1 h2 => by rw [e1, hk q (Nat.lt_of_lt_of_le h1 hS.1) (fun z => h2 (hA q z))]; exact hS.2.1 q h1 h2, fun q hq => by
      rcases List.mem_append.mp hq with h | h
      · exact hS.2.2 q h
      · exact hA _ (hL q h)⟩ T' rfl X'
  exact ⟨t2, st t2 a1, b1⟩
theorem sub_A {w : va_W} (Z : ZG D w A s H locs) (hA : ∀ q, s.heap.size ≤ q → A q) : ∀ q, va_A w H.size q → A q := by
  intro q h
  rcases h with ⟨k, e, h⟩ | h
  · exact Z.2.1.2 k (q, e) h
  · exact hA q (Nat.le_trans Z.2.2.1 h)
theorem pre_of {cy : Nat → ClassId} {ee : EE} {w : va_W} {As : List Value} (K : va_K D vwCl (tyL cy) s) (E : EV ee A s s.heap) (Z : ZG D w A s H locs) (hA : ∀ q, s.heap.size ≤ q → A q) : PreS s H (va_Pc As (fun U => U.heap.size = H.size ∧ va_P D vwCl w U.heap ∧ va_K D vwCl (tyL cy) U ∧ va_D (fun _ => True) w ∧ EV ee (va_A w H.size) U U.heap)) As :=
  ⟨fun a U g mk q => by
      obtain ⟨q0, q1, qP, qK, qD, qE⟩ := q
      exact ⟨q0, q1, qP, va_K.moved (u := U) (U := U.calling g mk a) (Vm.Alike.refl U.vm) qK, qD, EV.same (u := U) (U := U.calling g mk a) rfl qE⟩,
   fun U hU hW => ⟨rfl, by rw [hU], by rw [hU]; exact Z.1, va_K.moved hW.alike K, Z.2.1.weaken (fun _ _ _ _ => trivial), by
      rw [hU]
      exact EV.warm hW (EV.narrow (sub_A Z hA) (EV.kept (fun a h1 h2 => Z.2.2.2.1 a h1 h2) E))⟩⟩
variable {cy : Nat → ClassId} {ee : EE} {y : MethodName} {bytes : ByteArray} {maxL : Nat} {ret : Option FieldType} {fr lo : Nat} {As : List Value} {rv : Option Value} {cw : Cond} {index n : Nat} {b : Nat}
theorem call_V (q0 ci : Nat) {q : vw_C} {fs : List Value} (F : CallFix p m c cc nL s args (cw :: Gw) own) (K : va_K D vwCl (tyL cy) s) (E : EV ee A s s.heap) (hA : ∀ q, s.heap.size ≤ q → A q) (Z : ZG D w A s H locs) (hC : CT l y bytes maxL ret fr lo D cy ee w w' (.ref b :: As) rv)
    (hw : Cond.code y bytes maxL ret ∈ Gw ∧ Cond.methodLink own index y ∈ Gw ∧ Cond.instanceMethod y ∈ Gw ∧ Cond.selects q.1 y y ∈ Gw ∧ Cond.initialized q.1 ∈ Gw) (hd : y.cls = q.1 ∧ y.cls ≠ "java/lang/invoke/MethodHandle" ∧ y.cls ≠ "java/lang/invoke/VarHandle" ∧ (parseMethodDescriptor y.desc).map (fun d => d.parameters.length) = some n)
    (hc : vwCl[ci]? = some q) (he : w[q0]? = some (b, .inr (ci, fs))) (hR : fr + 1 ≤ R.frames ∧ 8 + (maxL + 11) + lo ≤ R.locals) (hn : As.length = n) (hl : ls.size = nL) (hst : (rest.map fun v => v.category).sum ≤ 8) (hdg : decode cc pc = .ok (.invokevirtual index, 3))
    (kk : ∀ (H1 : Heap) (locs1 : List Loc), ZG D w' A s H1 locs1 → W p l e R s m args below meth c H1 locs1 0 0 Q (F0 m (pc + 3) ls (rv.toList ++ rest))) : W p l e R s m args below meth c H locs 0 0 Q (F0 m pc ls (As.reverse ++ .ref b :: rest)) := by
  have hG : GoodIn (cw :: Gw) (wsV own index q.1 y (Cond.code y bytes maxL ret :: Gw)) := good_of hw.1 (fun w h => by
    simp only [List.mem_cons, List.not_mem_nil, or_false] at h
    rcases h with h | h | h | h
    · rw [h]; exact hw.2.1
    · rw [h]; exact hw.2.2.1
    · rw [h]; exact hw.2.2.2.1
    · rw [h]; exact hw.2.2.2.2)
  have hp := pre_of (As := .ref b :: As) K E Z hA
  exact call_go (va_runV (As := As) (rest := rest) F (hC H.size) (cwV n F.2.2.2.2 hG rfl rfl rfl hd hR) ⟨hp.1, va_recv K Z.1 hc he, hp.2⟩ rfl hn hl rfl (lv_room hst) hdg ⟨Nat.zero_le _, Nat.zero_le _⟩) Z.2.2 (sub_A Z hA) kk
theorem call_S (F : CallFix p m c cc nL s args (cw :: Gw) own) (K : va_K D vwCl (tyL cy) s) (E : EV ee A s s.heap) (hA : ∀ q, s.heap.size ≤ q → A q) (Z : ZG D w A s H locs) (hC : CT l y bytes maxL ret fr lo D cy ee w w' As rv)
    (hw : Cond.code y bytes maxL ret ∈ Gw ∧ Cond.methodLink own index y ∈ Gw ∧ Cond.static y ∈ Gw ∧ Cond.initialized y.cls ∈ Gw) (hd : y.cls ≠ "java/lang/invoke/MethodHandle" ∧ y.cls ≠ "java/lang/invoke/VarHandle" ∧ (parseMethodDescriptor y.desc).map (fun d => d.parameters.length) = some n)
    (hR : fr + 1 ≤ R.frames ∧ 8 + (maxL + 11) + lo ≤ R.locals) (hn : As.length = n) (hl : ls.size = nL) (hst : (rest.map fun v => v.category).sum ≤ 8) (hdg : decode cc pc = .ok (.invokestatic index, 3))
    (kk : ∀ (H1 : Heap) (locs1 : List Loc), ZG D w' A s H1 locs1 → W p l e R s m args below meth c H1 locs1 0 0 Q (F0 m (pc + 3) ls (rv.toList ++ rest))) : W p l e R s m args below meth c H locs 0 0 Q (F0 m pc ls (As.reverse ++ rest)) := by
  have hG : GoodIn (cw :: Gw) (va_wsS own index y (Cond.code y bytes maxL ret :: Gw)) := good_of hw.1 (fun w h => by
    simp only [List.mem_cons, List.not_mem_nil, or_false] at h
    rcases h with h | h | h
    · rw [h]; exact hw.2.1
    · rw [h]; exact hw.2.2.1
    · rw [h]; exact hw.2.2.2)
  exact call_go (va_runS (As := As) (rest := rest) F (hC H.size) (va_cwS n F.2.2.2.2 hG rfl rfl rfl hd hR) (pre_of K E Z hA) rfl hn hl rfl (lv_room hst) hdg ⟨Nat.zero_le _, Nat.zero_le _⟩) Z.2.2 (sub_A Z hA) kk
theorem mth_max {x y : Int32} (F : CallFix p m c cc nL s args (cw :: Gw) own) (hlink : (Cond.methodLink own index Lib.Math.max.name).before args s = true) (hl : ls.size = nL) (h1 : 1 ≤ R.frames) (h2 : (rest.map fun v => v.category).sum + 13 ≤ R.locals) (hdg : decode cc pc = .ok (.invokestatic index, 3)) (kk : W p l e R s m args below meth c H locs 0 0 Q (F0 m (pc + 3) ls (.int (if x < y then y else x) :: rest))) : W p l e R s m args below meth c H locs 0 0 Q (F0 m pc ls (.int y :: .int x :: rest)) :=
  va_mmax F.1 F.2.1 (F.2.2.1.trans hl.symm) F.2.2.2.1 hlink (F.2.2.2.2 _ (List.mem_cons_of_mem _ mth_w1)) (F.2.2.2.2 _ (List.mem_cons_of_mem _ mth_w3)) (F.2.2.2.2 _ (List.mem_cons_of_mem _ mth_w4)) h1 h2 (Nat.zero_le _) (Nat.zero_le _) hdg kk
theorem mth_min {x y : Int32} (F : CallFix p m c cc nL s args (cw :: Gw) own) (hlink : (Cond.methodLink own index Lib.Math.min.name).before args s = true) (hl : ls.size = nL) (h1 : 1 ≤ R.frames) (h2 : (rest.map fun v => v.category).sum + 13 ≤ R.locals) (hdg : decode cc pc = .ok (.invokestatic index, 3)) (kk : W p l e R s m args below meth c H locs 0 0 Q (F0 m (pc + 3) ls (.int (if y < x then y else x) :: rest))) : W p l e R s m args below meth c H locs 0 0 Q (F0 m pc ls (.int y :: .int x :: rest)) :=
  va_mmin F.1 F.2.1 (F.2.2.1.trans hl.symm) F.2.2.2.1 hlink (F.2.2.2.2 _ (List.mem_cons_of_mem _ mth_w2)) (F.2.2.2.2 _ (List.mem_cons_of_mem _ mth_w3)) (F.2.2.2.2 _ (List.mem_cons_of_mem _ mth_w5)) h1 h2 (Nat.zero_le _) (Nat.zero_le _) hdg kk
end BASE
