/-! a system's numbers: longs, ints, arrays of longs, arrays of ints, by number; get, set -/
abbrev z_Sg : Type := (Nat → Int64) × (Nat → Int32) × (Nat → Nat → Int64) × (Nat → Nat → Int32)
def z_gL (x : z_Sg) (k : Nat) : Int64 := x.1 k
def z_gI (x : z_Sg) (k : Nat) : Int32 := x.2.1 k
def z_gM (x : z_Sg) (a : Nat) : Nat → Int64 := x.2.2.1 a
def z_gN (x : z_Sg) (a : Nat) : Nat → Int32 := x.2.2.2 a
def z_sL (x : z_Sg) (k : Nat) (v : Int64) : z_Sg := (fun j => if j = k then v else x.1 j, x.2)
def z_sI (x : z_Sg) (k : Nat) (v : Int32) : z_Sg := (x.1, fun j => if j = k then v else x.2.1 j, x.2.2)
def z_sM (x : z_Sg) (a i : Nat) (v : Int64) : z_Sg := (x.1, x.2.1, fun b => if b = a then vp_updL (x.2.2.1 a) i v else x.2.2.1 b, x.2.2.2)
def z_sN (x : z_Sg) (a i : Nat) (v : Int32) : z_Sg := (x.1, x.2.1, x.2.2.1, fun b => if b = a then upd (x.2.2.2 a) i v else x.2.2.2 b)
/-- a loop, at most n times -/
def z_lo {α β : Type} (F : (α → Option β) → α → Option β) : Nat → α → Option β
  | 0, _ => none
  | n + 1, a => F (z_lo F n) a
/-- a number gets a name -/
def z_nm {α β : Type} (e : α) (k : α → Option β) : Option β := k e
def z_lushr (x : Int64) (y : Int32) : Int64 := (x.toUInt64 >>> (y.toInt64.toUInt64 &&& Int64.toUInt64 63)).toInt64
def z_lshl (x : Int64) (y : Int32) : Int64 := x <<< (y.toInt64 &&& 63)
def z_lshr (x : Int64) (y : Int32) : Int64 := x >>> (y.toInt64 &&& 63)
def z_iushr (x y : Int32) : Int32 := (x.toUInt32 >>> (y.toUInt32 &&& Int32.toUInt32 31)).toInt32
/-- a place of an array of n: wrong -/
abbrev z_bad (i : Int32) (n : Nat) : Prop := i < 0 ∨ n ≤ i.toNatClampNeg
/-- a number that a boolean is -/
abbrev z_bo (v : Int32) : Prop := v = 0 ∨ v = 1
theorem z_bo_n {v : Int32} (h : z_bo v) : narrow .boolean (.int v) = .int v := by rcases h with rfl | rfl <;> rfl
theorem z_bo_f {v : Int32} (h : z_bo v) : fits .boolean (.int v) = true := by rcases h with rfl | rfl <;> rfl
def z_gd {α : Type} (c : Prop) [Decidable c] (a : Option α) : Option α := if c then a else none
theorem ok_t {α : Type} {c : Prop} {d : Decidable c} {a b : Option α} {o : α} (h : @ite _ c d a b = some o) (hc : c) : a = some o := by rw [if_pos hc] at h; exact h
theorem ok_f {α : Type} {c : Prop} {d : Decidable c} {a b : Option α} {o : α} (h : @ite _ c d a b = some o) (hc : ¬ c) : b = some o := by rw [if_neg hc] at h; exact h
theorem ok_g {α : Type} {c : Prop} {d : Decidable c} {b : Option α} {o : α} (h : @ite _ c d none b = some o) : ¬ c ∧ b = some o := by
  by_cases hc : c
  · rw [if_pos hc] at h; cases h
  · rw [if_neg hc] at h; exact ⟨hc, h⟩
theorem ok_G {α : Type} {c : Prop} {d : Decidable c} {a : Option α} {o : α} (h : @z_gd α c d a = some o) : c ∧ a = some o := by
  unfold z_gd at h
  by_cases hc : c
  · rw [if_pos hc] at h; exact ⟨hc, h⟩
  · rw [if_neg hc] at h; cases h
theorem ok_b {α β : Type} {x : Option α} {k : α → Option β} {o : β} (h : x.bind k = some o) : ∃ a, x = some a ∧ k a = some o := by
  cases x with
  | none => cases h
  | some a => exact ⟨a, rfl, h⟩
theorem ok_n {α β : Type} {e : α} {k : α → Option β} {o : β} (h : z_nm e k = some o) : ∃ a, a = e ∧ k a = some o := ⟨e, rfl, h⟩
/-- what stands for a method's whole walk: the machine, the code, the tables' words, the classes -/
def z_cx (own : String) (cc : ByteArray) (nL : Nat) (ret : Option FieldType) (D : va_G) (tys : List (ClassId × FieldType)) (A : Nat → Prop) (p : Program) (s : State) (m : MethodId) (args : Array Value) (meth : Method) (c : Code) : Prop :=
  p.tables.exec = Jvm.exec ∧ c.code = cc ∧ meth.sig.returnType = ret ∧ meth.locks = false ∧ c.maxLocals = nL ∧ s.vm.findClass own = some m.cls ∧ (∀ w ∈ z_tbl, w.before args s = true) ∧ va_K D vwCl tys s ∧ (∀ q : Nat, s.heap.size ≤ q → A q)
/-- the world w is held, and nothing outside A has changed -/
def z_wd (D : va_G) (w : va_W) (A : Nat → Prop) (s : State) (H : Heap) (locs : List Loc) : Prop := va_P D vwCl w H ∧ va_D A w ∧ va_S A s.heap H locs
abbrev z_Pc (D : va_G) (tys : List (ClassId × FieldType)) (w : va_W) (av : List Value) (sz : Nat) : Array Value → State → Prop := va_Pc av (fun U => U.heap.size = sz ∧ va_P D vwCl w U.heap ∧ va_K D vwCl tys U ∧ va_D (fun _ => True) w)
abbrev z_B (D : va_G) (tys : List (ClassId × FieldType)) (w1 : va_W) (A : Nat → Prop) : Unit → State → Prop := fun _ t => va_P D vwCl w1 t.heap ∧ va_K D vwCl tys t ∧ va_D A w1
abbrev z_rm (fr lo : Nat) : Room := { frames := fr, cells := 0, slots := 0, locals := lo }
abbrev z_ws (y : MethodName) (cc : ByteArray) (nL : Nat) (ret : Option FieldType) : List Cond := .code y cc nL ret :: z_tbl
/-- contracts: the answer r, the world w1 behind -/
def z_ci (l : Launch) (y : MethodName) (cc : ByteArray) (nL : Nat) (ret : Option FieldType) (fr lo : Nat) (D : va_G) (tys : List (ClassId × FieldType)) (w w1 : va_W) (av : List Value) (r : Int32) : Prop :=
  ∀ sz : Nat, Met l y (z_ws y cc nL ret) (z_rm fr lo) (z_Pc D tys w av sz) (va_Qi (fun (r' : Int32) (_ : Unit) => r' = r) (z_B D tys w1 (va_A w sz)) (va_A w sz)) 0 0 (va_A w sz)
def z_cl (l : Launch) (y : MethodName) (cc : ByteArray) (nL : Nat) (ret : Option FieldType) (fr lo : Nat) (D : va_G) (tys : List (ClassId × FieldType)) (w w1 : va_W) (av : List Value) (r : Int64) : Prop :=
  ∀ sz : Nat, Met l y (z_ws y cc nL ret) (z_rm fr lo) (z_Pc D tys w av sz) (va_Ql (fun (r' : Int64) (_ : Unit) => r' = r) (z_B D tys w1 (va_A w sz)) (va_A w sz)) 0 0 (va_A w sz)
def z_cv (l : Launch) (y : MethodName) (cc : ByteArray) (nL : Nat) (ret : Option FieldType) (fr lo : Nat) (D : va_G) (tys : List (ClassId × FieldType)) (w w1 : va_W) (av : List Value) : Prop :=
  ∀ sz : Nat, Met l y (z_ws y cc nL ret) (z_rm fr lo) (z_Pc D tys w av sz) (va_Qv (fun (_ : Unit) => True) (z_B D tys w1 (va_A w sz)) (va_A w sz)) 0 0 (va_A w sz)
/-- the goals of a walk -/
abbrev z_qi (below : List Frame) (D : va_G) (tys : List (ClassId × FieldType)) (w1 : va_W) (A : Nat → Prop) (s : State) (args : Array Value) (r : Int32) : State → Prop := MQ below (va_Qi (fun (r' : Int32) (_ : Unit) => r' = r) (z_B D tys w1 A) A) args s 0 0 A
abbrev z_ql (below : List Frame) (D : va_G) (tys : List (ClassId × FieldType)) (w1 : va_W) (A : Nat → Prop) (s : State) (args : Array Value) (r : Int64) : State → Prop := MQ below (va_Ql (fun (r' : Int64) (_ : Unit) => r' = r) (z_B D tys w1 A) A) args s 0 0 A
abbrev z_qv (below : List Frame) (D : va_G) (tys : List (ClassId × FieldType)) (w1 : va_W) (A : Nat → Prop) (s : State) (args : Array Value) : State → Prop := MQ below (va_Qv (fun (_ : Unit) => True) (z_B D tys w1 A) A) args s 0 0 A
/-- what a callee's own words say: its class, its number there, that it is an instance method -/
def z_mw (y : MethodName) (C : String) (ci : Nat) (T : u_T) (N : Nat) (cc : ByteArray) (nL : Nat) (ret : Option FieldType) (n : Nat) : Prop :=
  vwCl[ci]? = some (C, T, N) ∧ Cond.instanceMethod y ∈ z_tbl ∧ Cond.selects C y y ∈ z_tbl ∧ Cond.initialized C ∈ z_tbl ∧ Cond.code y cc nL ret ∈ z_tbl ∧ y.cls = C ∧ y.cls ≠ "java/lang/invoke/MethodHandle" ∧ y.cls ≠ "java/lang/invoke/VarHandle" ∧ (parseMethodDescriptor y.desc).map (fun d => d.parameters.length) = some n
def z_ms (y : MethodName) (cc : ByteArray) (nL : Nat) (ret : Option FieldType) (n : Nat) : Prop :=
  Cond.static y ∈ z_tbl ∧ Cond.initialized y.cls ∈ z_tbl ∧ Cond.code y cc nL ret ∈ z_tbl ∧ y.cls ≠ "java/lang/invoke/MethodHandle" ∧ y.cls ≠ "java/lang/invoke/VarHandle" ∧ (parseMethodDescriptor y.desc).map (fun d => d.parameters.length) = some n
theorem z_goodIn {y : MethodName} {cc : ByteArray} {nL : Nat} {ret : Option FieldType} (h : Cond.code y cc nL ret ∈ z_tbl) : GoodIn z_tbl (z_ws y cc nL ret) := by
  intro w hw
  rcases List.mem_cons.mp hw with rfl | hw
  · exact ⟨h, Or.inl rfl⟩
  · exact ⟨hw, good_of_word (z_allgood w hw)⟩
section Zbase
variable {p : Program} {l : Launch} {e : Env} {R : Room} {s : State} {m : MethodId} {args : Array Value} {below : List Frame} {meth : Method} {c : Code} {H : Heap} {locs : List Loc} {cells slots : Nat} {Q : State → Prop}
variable {own : String} {cc : ByteArray} {nL : Nat} {ret : Option FieldType} {D : va_G} {tys : List (ClassId × FieldType)} {A : Nat → Prop} {w w1 : va_W} {fr lo : Nat} {y : MethodName} {av As rest st : List Value} {pc : Nat} {ls : Array Slot}
theorem z_entry (hn : (lg_sl av).length ≤ nL) {lv : List (Nat × Value)} (hlv : lv_args 0 av = lv) (k : ∀ ls : Array Slot, lv_has ls nL lv → W p l e R s m args below meth c H locs cells slots Q (F0 m 0 ls [])) : W p l e R s m args below meth c H locs cells slots Q (entryFrame m av.toArray nL) := by
  have hl := lv_entry av (n := nL) hn
  rw [lg_entry_eq]
  rw [hlv] at hl
  exact k _ hl
theorem z_F (C0 : z_cx own cc nL ret D tys A p s m args meth c) (hw : z_wd D w A s H locs) : ∀ q, va_A w H.size q → A q := by
  obtain ⟨hx, hb, hr, hlk, hml, hown, hts, hK, hA⟩ := C0
  obtain ⟨hP, hD, hS⟩ := hw
  intro q h
  rcases h with ⟨k, e, h⟩ | h
  · exact hD.2 k (q, e) h
  · exact hA q (Nat.le_trans hS.1 h)
theorem z_blind {sz : Nat} : FrameBlind (z_Pc D tys w av sz) := fun a U g mk q => by
  obtain ⟨q0, q1, qP, qK, qD⟩ := q
  exact ⟨q0, q1, qP, va_K.moved (u := U) (U := U.calling g mk a) (Vm.Alike.refl U.vm) qK, qD⟩
theorem z_ci_of {r : Int32} (hy : plainName y.cls = true) (hcls : y.cls = own)
    (body : ∀ (p : Program) (e : Env) (s : State) (m : MethodId) (below : List Frame) (meth : Method) (c : Code) (A : Nat → Prop), z_cx own cc nL ret D tys A p s m av.toArray meth c → z_wd D w A s s.heap [] → W p l e (z_rm fr lo) s m av.toArray below meth c s.heap [] 0 0 (z_qi below D tys w1 A s av.toArray r) (entryFrame m av.toArray nL)) : z_ci l y cc nL ret fr lo D tys w w1 av r := by
  intro sz
  refine Met.ofW (cc := cc) (maxL := nL) (ret := ret) hy rfl ?_
  intro p e s m args below meth c s₁ B hml hv
  obtain ⟨rfl, hsz, hP, hK, hD0⟩ := hv
  have hts := atoms_spec (ws := z_ws y cc nL ret) B.pre
  have hown : s.vm.findClass own = some m.cls := by rw [← hcls]; exact findClass_of_methodNamed B.named
  subst hsz
  exact body p e s m below meth c (va_A w s.heap.size) ⟨B.exec, B.bytes, B.returns, B.notSynchronized, hml, hown, fun w' h => hts w' (List.mem_cons_of_mem _ h), hK, fun q h => Or.inr h⟩ ⟨hP, hD0.self, va_S.rf⟩
theorem z_cl_of {r : Int64} (hy : plainName y.cls = true) (hcls : y.cls = own)
    (body : ∀ (p : Program) (e : Env) (s : State) (m : MethodId) (below : List Frame) (meth : Method) (c : Code) (A : Nat → Prop), z_cx own cc nL ret D tys A p s m av.toArray meth c → z_wd D w A s s.heap [] → W p l e (z_rm fr lo) s m av.toArray below meth c s.heap [] 0 0 (z_ql below D tys w1 A s av.toArray r) (entryFrame m av.toArray nL)) : z_cl l y cc nL ret fr lo D tys w w1 av r := by
  intro sz
  refine Met.ofW (cc := cc) (maxL := nL) (ret := ret) hy rfl ?_
  intro p e s m args below meth c s₁ B hml hv
  obtain ⟨rfl, hsz, hP, hK, hD0⟩ := hv
  have hts := atoms_spec (ws := z_ws y cc nL ret) B.pre
  have hown : s.vm.findClass own = some m.cls := by rw [← hcls]; exact findClass_of_methodNamed B.named
  subst hsz
  exact body p e s m below meth c (va_A w s.heap.size) ⟨B.exec, B.bytes, B.returns, B.notSynchronized, hml, hown, fun w' h => hts w' (List.mem_cons_of_mem _ h), hK, fun q h => Or.inr h⟩ ⟨hP, hD0.self, va_S.rf⟩
theorem z_cv_of (hy : plainName y.cls = true) (hcls : y.cls = own)
    (body : ∀ (p : Program) (e : Env) (s : State) (m : MethodId) (below : List Frame) (meth : Method) (c : Code) (A : Nat → Prop), z_cx own cc nL ret D tys A p s m av.toArray meth c → z_wd D w A s s.heap [] → W p l e (z_rm fr lo) s m av.toArray below meth c s.heap [] 0 0 (z_qv below D tys w1 A s av.toArray) (entryFrame m av.toArray nL)) : z_cv l y cc nL ret fr lo D tys w w1 av := by
  intro sz
  refine Met.ofW (cc := cc) (maxL := nL) (ret := ret) hy rfl ?_
  intro p e s m args below meth c s₁ B hml hv
  obtain ⟨rfl, hsz, hP, hK, hD0⟩ := hv
  have hts := atoms_spec (ws := z_ws y cc nL ret) B.pre
  have hown : s.vm.findClass own = some m.cls := by rw [← hcls]; exact findClass_of_methodNamed B.named
  subst hsz
  exact body p e s m below meth c (va_A w s.heap.size) ⟨B.exec, B.bytes, B.returns, B.notSynchronized, hml, hown, fun w' h => hts w' (List.mem_cons_of_mem _ h), hK, fun q h => Or.inr h⟩ ⟨hP, hD0.self, va_S.rf⟩
theorem z_rti {r : Int32} (C0 : z_cx own cc nL (some .int) D tys A p s m args meth c) (hw : z_wd D w1 A s H locs) (d : decode cc pc = .ok (.ireturn, 1)) : W p l e R s m args below meth c H locs 0 0 (z_qi below D tys w1 A s args r) (F0 m pc ls [.int r]) := by
  obtain ⟨hx, hb, hr, hlk, hml, hown, hts, hK, hA⟩ := C0
  obtain ⟨hP, hD, hS⟩ := hw
  exact W.iret hx hb hr (fun t ht hW => ⟨⟨r, (), rfl, rfl, by rw [ht]; exact hP, va_K.moved hW.alike hK, hD⟩, hS.F ht⟩) hS.2.2 d
theorem z_rtz {r : Int32} (C0 : z_cx own cc nL (some .boolean) D tys A p s m args meth c) (hw : z_wd D w1 A s H locs) (hn : narrow .boolean (.int r) = .int r) (d : decode cc pc = .ok (.ireturn, 1)) : W p l e R s m args below meth c H locs 0 0 (z_qi below D tys w1 A s args r) (F0 m pc ls [.int r]) := by
  obtain ⟨hx, hb, hr, hlk, hml, hown, hts, hK, hA⟩ := C0
  obtain ⟨hP, hD, hS⟩ := hw
  exact W.zret hx hb hr hn (fun t ht hW => ⟨⟨r, (), rfl, rfl, by rw [ht]; exact hP, va_K.moved hW.alike hK, hD⟩, hS.F ht⟩) hS.2.2 d
theorem z_rtl {r : Int64} (C0 : z_cx own cc nL (some .long) D tys A p s m args meth c) (hw : z_wd D w1 A s H locs) (d : decode cc pc = .ok (.lreturn, 1)) : W p l e R s m args below meth c H locs 0 0 (z_ql below D tys w1 A s args r) (F0 m pc ls [.long r]) := by
  obtain ⟨hx, hb, hr, hlk, hml, hown, hts, hK, hA⟩ := C0
  obtain ⟨hP, hD, hS⟩ := hw
  exact W.lret hx hb hr (fun t ht hW => ⟨⟨r, (), rfl, rfl, by rw [ht]; exact hP, va_K.moved hW.alike hK, hD⟩, hS.F ht⟩) hS.2.2 d
theorem z_rtv (C0 : z_cx own cc nL none D tys A p s m args meth c) (hw : z_wd D w1 A s H locs) (d : decode cc pc = .ok (.return_, 1)) : W p l e R s m args below meth c H locs 0 0 (z_qv below D tys w1 A s args) (F0 m pc ls []) := by
  obtain ⟨hx, hb, hr, hlk, hml, hown, hts, hK, hA⟩ := C0
  obtain ⟨hP, hD, hS⟩ := hw
  exact W.vret hx hb hr (fun t ht hW => ⟨⟨(), rfl, trivial, by rw [ht]; exact hP, va_K.moved hW.alike hK, hD⟩, hS.F ht⟩) hS.2.2 d
theorem z_vi {r : Int32} {cc' : ByteArray} {nL' n idx ci N : Nat} {ret' : Option FieldType} {b : Nat} {C : String} {T : u_T} {fs : List Value} (C0 : z_cx own cc nL ret D tys A p s m args meth c) (hw : z_wd D w A s H locs) (hc : z_ci l y cc' nL' ret' fr lo D tys w w1 (.ref b :: As) r) (hm : z_mw y C ci T N cc' nL' ret' n) (hk : Cond.methodLink own idx y ∈ z_tbl) (q0 : Nat) (hq : w[q0]? = some (b, .inr (ci, fs))) (hR : fr + 1 ≤ R.frames ∧ 8 + (nL' + 11) + lo ≤ R.locals) (hf : cells ≤ R.cells ∧ slots ≤ R.slots) (hn : As.length = n) (hl : ls.size = nL) (hst : st = As.reverse ++ .ref b :: rest) (hro : (rest.map fun v => v.category).sum ≤ 8) (d : decode cc pc = .ok (.invokevirtual idx, 3))
    (k : ∀ (H1 : Heap) (locs1 : List Loc), z_wd D w1 A s H1 locs1 → W p l e R s m args below meth c H1 locs1 cells slots Q (F0 m (pc + 3) ls (.int r :: rest))) : W p l e R s m args below meth c H locs cells slots Q (F0 m pc ls st) := by
  have hF := z_F C0 hw
  obtain ⟨hx, hb, hr, hlk, hml, hown, hts, hK, hA⟩ := C0
  obtain ⟨hP, hD, hS⟩ := hw
  obtain ⟨hvc, hi, hse, hini, hco, hcl, hd⟩ := hm
  refine va_calli (va_runV (As := As) (rest := rest) ⟨hx, hb, hml, hown, hts⟩ (hc H.size) ⟨callB_of n hts (z_goodIn hco) rfl rfl rfl (by rw [hcl]; exact hts _ hini) (hts _ hk) hd hR, hts _ hi, hts _ hse⟩ ⟨z_blind, va_recv hK hP hvc hq, fun U hU hW => ⟨rfl, by rw [hU], by rw [hU]; exact hP, va_K.moved hW.alike hK, hD.weaken (fun _ _ _ _ => trivial)⟩⟩ rfl hn hl hst (lv_room hro) d hf) hS (fun q _ h => hF q h) hF (fun r' u t H1 locs1 ht hvm hr' hB hz1 hk1 hS1 => ?_)
  obtain ⟨hP1, hK1, hD1⟩ := hB
  subst hr'
  rw [ht] at hP1
  exact k H1 locs1 ⟨hP1, hD1.weaken (fun k q _ h => hF q.1 h), hS1⟩
theorem z_si {r : Int32} {cc' : ByteArray} {nL' n idx : Nat} {ret' : Option FieldType} (C0 : z_cx own cc nL ret D tys A p s m args meth c) (hw : z_wd D w A s H locs) (hc : z_ci l y cc' nL' ret' fr lo D tys w w1 As r) (hm : z_ms y cc' nL' ret' n) (hk : Cond.methodLink own idx y ∈ z_tbl) (hR : fr + 1 ≤ R.frames ∧ 8 + (nL' + 11) + lo ≤ R.locals) (hf : cells ≤ R.cells ∧ slots ≤ R.slots) (hn : As.length = n) (hl : ls.size = nL) (hst : st = As.reverse ++ rest) (hro : (rest.map fun v => v.category).sum ≤ 8) (d : decode cc pc = .ok (.invokestatic idx, 3))
    (k : ∀ (H1 : Heap) (locs1 : List Loc), z_wd D w1 A s H1 locs1 → W p l e R s m args below meth c H1 locs1 cells slots Q (F0 m (pc + 3) ls (.int r :: rest))) : W p l e R s m args below meth c H locs cells slots Q (F0 m pc ls st) := by
  have hF := z_F C0 hw
  obtain ⟨hx, hb, hr, hlk, hml, hown, hts, hK, hA⟩ := C0
  obtain ⟨hP, hD, hS⟩ := hw
  obtain ⟨hi, hini, hco, hd⟩ := hm
  refine va_calli (va_runS (As := As) (rest := rest) ⟨hx, hb, hml, hown, hts⟩ (hc H.size) ⟨callB_of n hts (z_goodIn hco) rfl rfl rfl (hts _ hini) (hts _ hk) hd hR, hts _ hi⟩ ⟨z_blind, fun U hU hW => ⟨rfl, by rw [hU], by rw [hU]; exact hP, va_K.moved hW.alike hK, hD.weaken (fun _ _ _ _ => trivial)⟩⟩ rfl hn hl hst (lv_room hro) d hf) hS (fun q _ h => hF q h) hF (fun r' u t H1 locs1 ht hvm hr' hB hz1 hk1 hS1 => ?_)
  obtain ⟨hP1, hK1, hD1⟩ := hB
  subst hr'
  rw [ht] at hP1
  exact k H1 locs1 ⟨hP1, hD1.weaken (fun k q _ h => hF q.1 h), hS1⟩
theorem z_vl {r : Int64} {cc' : ByteArray} {nL' n idx ci N : Nat} {ret' : Option FieldType} {b : Nat} {C : String} {T : u_T} {fs : List Value} (C0 : z_cx own cc nL ret D tys A p s m args meth c) (hw : z_wd D w A s H locs) (hc : z_cl l y cc' nL' ret' fr lo D tys w w1 (.ref b :: As) r) (hm : z_mw y C ci T N cc' nL' ret' n) (hk : Cond.methodLink own idx y ∈ z_tbl) (q0 : Nat) (hq : w[q0]? = some (b, .inr (ci, fs))) (hR : fr + 1 ≤ R.frames ∧ 8 + (nL' + 11) + lo ≤ R.locals) (hf : cells ≤ R.cells ∧ slots ≤ R.slots) (hn : As.length = n) (hl : ls.size = nL) (hst : st = As.reverse ++ .ref b :: rest) (hro : (rest.map fun v => v.category).sum ≤ 8) (d : decode cc pc = .ok (.invokevirtual idx, 3))
    (k : ∀ (H1 : Heap) (locs1 : List Loc), z_wd D w1 A s H1 locs1 → W p l e R s m args below meth c H1 locs1 cells slots Q (F0 m (pc + 3) ls (.long r :: rest))) : W p l e R s m args below meth c H locs cells slots Q (F0 m pc ls st) := by
  have hF := z_F C0 hw
  obtain ⟨hx, hb, hr, hlk, hml, hown, hts, hK, hA⟩ := C0
  obtain ⟨hP, hD, hS⟩ := hw
  obtain ⟨hvc, hi, hse, hini, hco, hcl, hd⟩ := hm
  refine va_calll (va_runV (As := As) (rest := rest) ⟨hx, hb, hml, hown, hts⟩ (hc H.size) ⟨callB_of n hts (z_goodIn hco) rfl rfl rfl (by rw [hcl]; exact hts _ hini) (hts _ hk) hd hR, hts _ hi, hts _ hse⟩ ⟨z_blind, va_recv hK hP hvc hq, fun U hU hW => ⟨rfl, by rw [hU], by rw [hU]; exact hP, va_K.moved hW.alike hK, hD.weaken (fun _ _ _ _ => trivial)⟩⟩ rfl hn hl hst (lv_room hro) d hf) hS (fun q _ h => hF q h) hF (fun r' u t H1 locs1 ht hvm hr' hB hz1 hk1 hS1 => ?_)
  obtain ⟨hP1, hK1, hD1⟩ := hB
  subst hr'
  rw [ht] at hP1
  exact k H1 locs1 ⟨hP1, hD1.weaken (fun k q _ h => hF q.1 h), hS1⟩
theorem z_sl {r : Int64} {cc' : ByteArray} {nL' n idx : Nat} {ret' : Option FieldType} (C0 : z_cx own cc nL ret D tys A p s m args meth c) (hw : z_wd D w A s H locs) (hc : z_cl l y cc' nL' ret' fr lo D tys w w1 As r) (hm : z_ms y cc' nL' ret' n) (hk : Cond.methodLink own idx y ∈ z_tbl) (hR : fr + 1 ≤ R.frames ∧ 8 + (nL' + 11) + lo ≤ R.locals) (hf : cells ≤ R.cells ∧ slots ≤ R.slots) (hn : As.length = n) (hl : ls.size = nL) (hst : st = As.reverse ++ rest) (hro : (rest.map fun v => v.category).sum ≤ 8) (d : decode cc pc = .ok (.invokestatic idx, 3))
    (k : ∀ (H1 : Heap) (locs1 : List Loc), z_wd D w1 A s H1 locs1 → W p l e R s m args below meth c H1 locs1 cells slots Q (F0 m (pc + 3) ls (.long r :: rest))) : W p l e R s m args below meth c H locs cells slots Q (F0 m pc ls st) := by
  have hF := z_F C0 hw
  obtain ⟨hx, hb, hr, hlk, hml, hown, hts, hK, hA⟩ := C0
  obtain ⟨hP, hD, hS⟩ := hw
  obtain ⟨hi, hini, hco, hd⟩ := hm
  refine va_calll (va_runS (As := As) (rest := rest) ⟨hx, hb, hml, hown, hts⟩ (hc H.size) ⟨callB_of n hts (z_goodIn hco) rfl rfl rfl (hts _ hini) (hts _ hk) hd hR, hts _ hi⟩ ⟨z_blind, fun U hU hW => ⟨rfl, by rw [hU], by rw [hU]; exact hP, va_K.moved hW.alike hK, hD.weaken (fun _ _ _ _ => trivial)⟩⟩ rfl hn hl hst (lv_room hro) d hf) hS (fun q _ h => hF q h) hF (fun r' u t H1 locs1 ht hvm hr' hB hz1 hk1 hS1 => ?_)
  obtain ⟨hP1, hK1, hD1⟩ := hB
  subst hr'
  rw [ht] at hP1
  exact k H1 locs1 ⟨hP1, hD1.weaken (fun k q _ h => hF q.1 h), hS1⟩
theorem z_vv {cc' : ByteArray} {nL' n idx ci N : Nat} {ret' : Option FieldType} {b : Nat} {C : String} {T : u_T} {fs : List Value} (C0 : z_cx own cc nL ret D tys A p s m args meth c) (hw : z_wd D w A s H locs) (hc : z_cv l y cc' nL' ret' fr lo D tys w w1 (.ref b :: As)) (hm : z_mw y C ci T N cc' nL' ret' n) (hk : Cond.methodLink own idx y ∈ z_tbl) (q0 : Nat) (hq : w[q0]? = some (b, .inr (ci, fs))) (hR : fr + 1 ≤ R.frames ∧ 8 + (nL' + 11) + lo ≤ R.locals) (hf : cells ≤ R.cells ∧ slots ≤ R.slots) (hn : As.length = n) (hl : ls.size = nL) (hst : st = As.reverse ++ .ref b :: rest) (hro : (rest.map fun v => v.category).sum ≤ 8) (d : decode cc pc = .ok (.invokevirtual idx, 3))
    (k : ∀ (H1 : Heap) (locs1 : List Loc), z_wd D w1 A s H1 locs1 → W p l e R s m args below meth c H1 locs1 cells slots Q (F0 m (pc + 3) ls (rest))) : W p l e R s m args below meth c H locs cells slots Q (F0 m pc ls st) := by
  have hF := z_F C0 hw
  obtain ⟨hx, hb, hr, hlk, hml, hown, hts, hK, hA⟩ := C0
  obtain ⟨hP, hD, hS⟩ := hw
  obtain ⟨hvc, hi, hse, hini, hco, hcl, hd⟩ := hm
  refine va_callv (va_runV (As := As) (rest := rest) ⟨hx, hb, hml, hown, hts⟩ (hc H.size) ⟨callB_of n hts (z_goodIn hco) rfl rfl rfl (by rw [hcl]; exact hts _ hini) (hts _ hk) hd hR, hts _ hi, hts _ hse⟩ ⟨z_blind, va_recv hK hP hvc hq, fun U hU hW => ⟨rfl, by rw [hU], by rw [hU]; exact hP, va_K.moved hW.alike hK, hD.weaken (fun _ _ _ _ => trivial)⟩⟩ rfl hn hl hst (lv_room hro) d hf) hS (fun q _ h => hF q h) hF (fun u t H1 locs1 ht hvm hr' hB hz1 hk1 hS1 => ?_)
  obtain ⟨hP1, hK1, hD1⟩ := hB
  rw [ht] at hP1
  exact k H1 locs1 ⟨hP1, hD1.weaken (fun k q _ h => hF q.1 h), hS1⟩
theorem z_sv {cc' : ByteArray} {nL' n idx : Nat} {ret' : Option FieldType} (C0 : z_cx own cc nL ret D tys A p s m args meth c) (hw : z_wd D w A s H locs) (hc : z_cv l y cc' nL' ret' fr lo D tys w w1 As) (hm : z_ms y cc' nL' ret' n) (hk : Cond.methodLink own idx y ∈ z_tbl) (hR : fr + 1 ≤ R.frames ∧ 8 + (nL' + 11) + lo ≤ R.locals) (hf : cells ≤ R.cells ∧ slots ≤ R.slots) (hn : As.length = n) (hl : ls.size = nL) (hst : st = As.reverse ++ rest) (hro : (rest.map fun v => v.category).sum ≤ 8) (d : decode cc pc = .ok (.invokestatic idx, 3))
    (k : ∀ (H1 : Heap) (locs1 : List Loc), z_wd D w1 A s H1 locs1 → W p l e R s m args below meth c H1 locs1 cells slots Q (F0 m (pc + 3) ls (rest))) : W p l e R s m args below meth c H locs cells slots Q (F0 m pc ls st) := by
  have hF := z_F C0 hw
  obtain ⟨hx, hb, hr, hlk, hml, hown, hts, hK, hA⟩ := C0
  obtain ⟨hP, hD, hS⟩ := hw
  obtain ⟨hi, hini, hco, hd⟩ := hm
  refine va_callv (va_runS (As := As) (rest := rest) ⟨hx, hb, hml, hown, hts⟩ (hc H.size) ⟨callB_of n hts (z_goodIn hco) rfl rfl rfl (hts _ hini) (hts _ hk) hd hR, hts _ hi⟩ ⟨z_blind, fun U hU hW => ⟨rfl, by rw [hU], by rw [hU]; exact hP, va_K.moved hW.alike hK, hD.weaken (fun _ _ _ _ => trivial)⟩⟩ rfl hn hl hst (lv_room hro) d hf) hS (fun q _ h => hF q h) hF (fun u t H1 locs1 ht hvm hr' hB hz1 hk1 hS1 => ?_)
  obtain ⟨hP1, hK1, hD1⟩ := hB
  rw [ht] at hP1
  exact k H1 locs1 ⟨hP1, hD1.weaken (fun k q _ h => hF q.1 h), hS1⟩
theorem z_get {C : String} {T : u_T} {N ci idx a : Nat} {fs : List Value} {v : Value} (C0 : z_cx own cc nL ret D tys A p s m args meth c) (hw : z_wd D w A s H locs) (hin : ∀ x ∈ u_ws C T N, x ∈ z_tbl) (q0 : Nat) (he : w[q0]? = some (a, .inr (ci, fs))) (hc : vwCl[ci]? = some (C, T, N)) (k : Nat) (hk : k < N) (hlink : Cond.fieldLink own idx (T k).1 (T k).2.1 (T k).2.2.1 ∈ z_tbl) (hv : fs[k]? = some v) (d : decode cc pc = .ok (.getfield idx, 3))
    (kk : W p l e R s m args below meth c H locs cells slots Q (F0 m (pc + 3) ls (v :: rest))) : W p l e R s m args below meth c H locs cells slots Q (F0 m pc ls (.ref a :: rest)) := by
  obtain ⟨hx, hb, hr, hlk, hml, hown, hts, hK, hA⟩ := C0
  obtain ⟨hP, hD, hS⟩ := hw
  exact va_get hx hb hts hin hown hK hP q0 he hc k hk (hts _ hlink) (fun _ h => h) hv d kk
theorem z_put {C : String} {T : u_T} {N ci idx a : Nat} {fs : List Value} {v : Value} {ty : FieldType} (C0 : z_cx own cc nL ret D tys A p s m args meth c) (hw : z_wd D w A s H locs) (hin : ∀ x ∈ u_ws C T N, x ∈ z_tbl) (ty0 : Nat → FieldType) (hty : ∀ k, k < N → parseFieldDescriptor (T k).2.2.1 = some (ty0 k)) (hnm : ∀ a, a < N → ∀ b, b < N → a ≠ b → (T a).2.1 ≠ (T b).2.1) (q0 : Nat) (he : w[q0]? = some (a, .inr (ci, fs))) (hc : vwCl[ci]? = some (C, T, N)) (k : Nat) (hk : k < N) (hlink : Cond.fieldLink own idx (T k).1 (T k).2.1 (T k).2.2.1 ∈ z_tbl) (hfin : (T k).2.2.2 = false) (hd : parseFieldDescriptor (T k).2.2.1 = some ty) (hn : narrow ty v = v) (hfit : fits ty v = true) (hl : k < fs.length) (d : decode cc pc = .ok (.putfield idx, 3)) (hw1 : w.set q0 (a, .inr (ci, fs.set k v)) = w1)
    (kk : ∀ (H1 : Heap) (locs1 : List Loc), z_wd D w1 A s H1 locs1 → W p l e R s m args below meth c H1 locs1 cells slots Q (F0 m (pc + 3) ls rest)) : W p l e R s m args below meth c H locs cells slots Q (F0 m pc ls (v :: .ref a :: rest)) := by
  obtain ⟨hx, hb, hr, hlk, hml, hown, hts, hK, hA⟩ := C0
  obtain ⟨hP, hD, hS⟩ := hw
  refine va_put hx hb hts hin ty0 hty hnm hown hK hP hD hS q0 he hc k hk (hts _ hlink) (fun _ h => h) hfin hd hn hfit hl d (fun H1 locs1 hP1 hD1 hS1 => ?_)
  rw [hw1] at hP1 hD1
  exact kk H1 locs1 ⟨hP1, hD1, hS1⟩
/-- an array of longs is read, is written -/
theorem z_lald {a n : Nat} {cA : ClassId} {f : Nat → Int64} {i : Int32} (C0 : z_cx own cc nL ret D tys A p s m args meth c) (hw : z_wd D w A s H locs) (q0 t0 : Nat) (ha : w[q0]? = some (a, .inl (cA, n, .inr (.inl f)))) (ht : tys[t0]? = some (cA, .long)) (hin : ¬ z_bad i n) (d : decode cc pc = .ok (.laload, 1))
    (kk : W p l e R s m args below meth c H locs cells slots Q (F0 m (pc + 1) ls (.long (f i.toNatClampNeg) :: rest))) : W p l e R s m args below meth c H locs cells slots Q (F0 m pc ls (.int i :: .ref a :: rest)) := by
  obtain ⟨hx, hb, hr, hlk, hml, hown, hts, hK, hA⟩ := C0
  exact va_lald hx hb hK hw.1 q0 t0 ha ht hin d kk
theorem z_last {a n : Nat} {cA : ClassId} {f : Nat → Int64} {i : Int32} {x : Int64} (C0 : z_cx own cc nL ret D tys A p s m args meth c) (hw : z_wd D w A s H locs) (q0 t0 : Nat) (ha : w[q0]? = some (a, .inl (cA, n, .inr (.inl f)))) (ht : tys[t0]? = some (cA, .long)) (hin : ¬ z_bad i n) (d : decode cc pc = .ok (.lastore, 1)) (hw1 : w.set q0 (a, .inl (cA, n, .inr (.inl (vp_updL f i.toNatClampNeg x)))) = w1)
    (kk : ∀ (H1 : Heap) (locs1 : List Loc), z_wd D w1 A s H1 locs1 → W p l e R s m args below meth c H1 locs1 cells slots Q (F0 m (pc + 1) ls rest)) : W p l e R s m args below meth c H locs cells slots Q (F0 m pc ls (.long x :: .int i :: .ref a :: rest)) := by
  obtain ⟨hx, hb, hr, hlk, hml, hown, hts, hK, hA⟩ := C0
  obtain ⟨hP, hD, hS⟩ := hw
  refine va_last hx hb hK hP hD hS q0 t0 ha ht hin d (fun H1 locs1 hP1 hD1 hS1 => ?_)
  rw [hw1] at hP1 hD1
  exact kk H1 locs1 ⟨hP1, hD1, hS1⟩
theorem z_iald {a n : Nat} {cA : ClassId} {f : Nat → Int32} {i : Int32} (C0 : z_cx own cc nL ret D tys A p s m args meth c) (hw : z_wd D w A s H locs) (q0 t0 : Nat) (ha : w[q0]? = some (a, .inl (cA, n, .inl f))) (ht : tys[t0]? = some (cA, .int)) (hin : ¬ z_bad i n) (d : decode cc pc = .ok (.iaload, 1))
    (kk : W p l e R s m args below meth c H locs cells slots Q (F0 m (pc + 1) ls (.int (f i.toNatClampNeg) :: rest))) : W p l e R s m args below meth c H locs cells slots Q (F0 m pc ls (.int i :: .ref a :: rest)) := by
  obtain ⟨hx, hb, hr, hlk, hml, hown, hts, hK, hA⟩ := C0
  exact va_iald hx hb hK hw.1 q0 t0 ha ht hin d kk
theorem z_iast {a n : Nat} {cA : ClassId} {f : Nat → Int32} {i : Int32} {x : Int32} (C0 : z_cx own cc nL ret D tys A p s m args meth c) (hw : z_wd D w A s H locs) (q0 t0 : Nat) (ha : w[q0]? = some (a, .inl (cA, n, .inl f))) (ht : tys[t0]? = some (cA, .int)) (hin : ¬ z_bad i n) (d : decode cc pc = .ok (.iastore, 1)) (hw1 : w.set q0 (a, .inl (cA, n, .inl (upd f i.toNatClampNeg x))) = w1)
    (kk : ∀ (H1 : Heap) (locs1 : List Loc), z_wd D w1 A s H1 locs1 → W p l e R s m args below meth c H1 locs1 cells slots Q (F0 m (pc + 1) ls rest)) : W p l e R s m args below meth c H locs cells slots Q (F0 m pc ls (.int x :: .int i :: .ref a :: rest)) := by
  obtain ⟨hx, hb, hr, hlk, hml, hown, hts, hK, hA⟩ := C0
  obtain ⟨hP, hD, hS⟩ := hw
  refine va_iast hx hb hK hP hD hS q0 t0 ha ht hin d (fun H1 locs1 hP1 hD1 hS1 => ?_)
  rw [hw1] at hP1 hD1
  exact kk H1 locs1 ⟨hP1, hD1, hS1⟩
theorem z_bald {a n : Nat} {cA : ClassId} {f : Nat → Int32} {i : Int32} (C0 : z_cx own cc nL ret D tys A p s m args meth c) (hw : z_wd D w A s H locs) (q0 t0 : Nat) (ha : w[q0]? = some (a, .inl (cA, n, .inl f))) (ht : tys[t0]? = some (cA, .byte)) (hin : ¬ z_bad i n) (d : decode cc pc = .ok (.baload, 1))
    (kk : W p l e R s m args below meth c H locs cells slots Q (F0 m (pc + 1) ls (.int (f i.toNatClampNeg) :: rest))) : W p l e R s m args below meth c H locs cells slots Q (F0 m pc ls (.int i :: .ref a :: rest)) := by
  obtain ⟨hx, hb, hr, hlk, hml, hown, hts, hK, hA⟩ := C0
  exact va_bald hx hb hK hw.1 q0 t0 ha ht hin d kk
theorem z_bast {a n : Nat} {cA : ClassId} {f : Nat → Int32} {i : Int32} {x : Int32} (C0 : z_cx own cc nL ret D tys A p s m args meth c) (hw : z_wd D w A s H locs) (q0 t0 : Nat) (ha : w[q0]? = some (a, .inl (cA, n, .inl f))) (ht : tys[t0]? = some (cA, .byte)) (hin : ¬ z_bad i n) (d : decode cc pc = .ok (.bastore, 1)) (hw1 : w.set q0 (a, .inl (cA, n, .inl (upd f i.toNatClampNeg (vp_nar .byte x)))) = w1)
    (kk : ∀ (H1 : Heap) (locs1 : List Loc), z_wd D w1 A s H1 locs1 → W p l e R s m args below meth c H1 locs1 cells slots Q (F0 m (pc + 1) ls rest)) : W p l e R s m args below meth c H locs cells slots Q (F0 m pc ls (.int x :: .int i :: .ref a :: rest)) := by
  obtain ⟨hx, hb, hr, hlk, hml, hown, hts, hK, hA⟩ := C0
  obtain ⟨hP, hD, hS⟩ := hw
  refine va_bast hx hb hK hP hD hS q0 t0 ha ht hin d (fun H1 locs1 hP1 hD1 hS1 => ?_)
  rw [hw1] at hP1 hD1
  exact kk H1 locs1 ⟨hP1, hD1, hS1⟩
theorem z_zald {a n : Nat} {cA : ClassId} {f : Nat → Int32} {i : Int32} (C0 : z_cx own cc nL ret D tys A p s m args meth c) (hw : z_wd D w A s H locs) (q0 t0 : Nat) (ha : w[q0]? = some (a, .inl (cA, n, .inl f))) (ht : tys[t0]? = some (cA, .boolean)) (hin : ¬ z_bad i n) (d : decode cc pc = .ok (.baload, 1))
    (kk : W p l e R s m args below meth c H locs cells slots Q (F0 m (pc + 1) ls (.int (f i.toNatClampNeg) :: rest))) : W p l e R s m args below meth c H locs cells slots Q (F0 m pc ls (.int i :: .ref a :: rest)) := by
  obtain ⟨hx, hb, hr, hlk, hml, hown, hts, hK, hA⟩ := C0
  exact va_zald hx hb hK hw.1 q0 t0 ha ht hin d kk
theorem z_zast {a n : Nat} {cA : ClassId} {f : Nat → Int32} {i : Int32} {x : Int32} (C0 : z_cx own cc nL ret D tys A p s m args meth c) (hw : z_wd D w A s H locs) (q0 t0 : Nat) (ha : w[q0]? = some (a, .inl (cA, n, .inl f))) (ht : tys[t0]? = some (cA, .boolean)) (hin : ¬ z_bad i n) (d : decode cc pc = .ok (.bastore, 1)) (hw1 : w.set q0 (a, .inl (cA, n, .inl (upd f i.toNatClampNeg (vp_nar .boolean x)))) = w1)
    (kk : ∀ (H1 : Heap) (locs1 : List Loc), z_wd D w1 A s H1 locs1 → W p l e R s m args below meth c H1 locs1 cells slots Q (F0 m (pc + 1) ls rest)) : W p l e R s m args below meth c H locs cells slots Q (F0 m pc ls (.int x :: .int i :: .ref a :: rest)) := by
  obtain ⟨hx, hb, hr, hlk, hml, hown, hts, hK, hA⟩ := C0
  obtain ⟨hP, hD, hS⟩ := hw
  refine va_zast hx hb hK hP hD hS q0 t0 ha ht hin d (fun H1 locs1 hP1 hD1 hS1 => ?_)
  rw [hw1] at hP1 hD1
  exact kk H1 locs1 ⟨hP1, hD1, hS1⟩
theorem z_ti {x y : Int32} (h : y = x) (k : W p l e R s m args below meth c H locs cells slots Q (F0 m pc ls (.int y :: rest))) : W p l e R s m args below meth c H locs cells slots Q (F0 m pc ls (.int x :: rest)) := h ▸ k
theorem z_tl {x y : Int64} (h : y = x) (k : W p l e R s m args below meth c H locs cells slots Q (F0 m pc ls (.long y :: rest))) : W p l e R s m args below meth c H locs cells slots Q (F0 m pc ls (.long x :: rest)) := h ▸ k
end Zbase
