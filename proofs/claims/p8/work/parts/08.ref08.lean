def kb_Mo_step_258 (ih258 : Int32 × z_Sg → Option (Int32 × z_Sg)) (x1 : Int32) (q : z_Sg) : Option (Int32 × z_Sg) :=
  if (7 : Int32) ≤ x1 then (some ((z_gI q 4), q)) else (if z_bad x1 7 then none else (if z_bad x1 7 then none else (z_nm (z_sN q 1 x1.toNatClampNeg (vp_nar .boolean (z_gN q 2 x1.toNatClampNeg))) (fun q17 => z_nm (x1 + (1 : Int32)) (fun n18 => ih258 (n18, q17))))))
def k_Mo_step_258 (x1 : Int32) (q : z_Sg) : Option (Int32 × z_Sg) := z_lo (fun ih258 a => kb_Mo_step_258 ih258 a.1 a.2) 2000 (x1, q)
def kb_Mo_step_232 (ih232 : Int32 × z_Sg → Option (Int32 × z_Sg)) (x1 : Int32) (q : z_Sg) : Option (Int32 × z_Sg) :=
  if (16 : Int32) ≤ x1 then (k_Mo_step_258 (0 : Int32) q) else (if z_bad x1 16 then none else (if z_bad x1 16 then none else (z_nm (z_sM q 0 x1.toNatClampNeg (z_gM q 1 x1.toNatClampNeg)) (fun q21 => z_nm (x1 + (1 : Int32)) (fun n22 => ih232 (n22, q21))))))
def k_Mo_step_232 (x1 : Int32) (q : z_Sg) : Option (Int32 × z_Sg) := z_lo (fun ih232 a => kb_Mo_step_232 ih232 a.1 a.2) 2000 (x1, q)
def k_Mo_step_214 (ih174 : Int32 × z_Sg → Option (Int32 × z_Sg)) (x1 : Int32) (q : z_Sg) : Option (Int32 × z_Sg) :=
  z_nm (x1 + (1 : Int32)) (fun n27 => ih174 (n27, q))
def kb_Mo_step_174 (ih174 : Int32 × z_Sg → Option (Int32 × z_Sg)) (x1 : Int32) (q : z_Sg) : Option (Int32 × z_Sg) :=
  if (z_gI q 5) ≤ x1 then (some ((-1 : Int32), q)) else (if z_bad x1 16 then none else (if (32768 : Int64) ≤ (z_gM q 2 x1.toNatClampNeg) then (k_Mo_step_214 ih174 x1 q) else (if z_bad x1 16 then none else (if z_bad x1 16 then none else (if z_bad ((z_gM q 2 x1.toNatClampNeg).toInt32) 32768 then none else (z_nm (z_sN q 0 ((z_gM q 2 x1.toNatClampNeg).toInt32).toNatClampNeg (vp_nar .byte ((z_gN q 3 x1.toNatClampNeg).toInt8.toInt32))) (fun q31 => k_Mo_step_214 ih174 x1 q31)))))))
def k_Mo_step_174 (x1 : Int32) (q : z_Sg) : Option (Int32 × z_Sg) := z_lo (fun ih174 a => kb_Mo_step_174 ih174 a.1 a.2) 2000 (x1, q)
def k_Mo_step_156 (q : z_Sg) : Option (Int32 × z_Sg) :=
  if (z_gI q 4) = (-1 : Int32) then (z_nm (z_sL q 0 (z_gL q 7)) (fun q23 => k_Mo_step_174 (0 : Int32) q23)) else (z_gd (z_bo (z_gI q 3)) (z_nm (z_sI q 2 (z_gI q 3)) (fun q12 => k_Mo_step_232 (0 : Int32) q12)))
def k_Mo_step_153 (t1 : Int32) (t2 : Int32) (q : z_Sg) : Option (Int32 × z_Sg) :=
  (f_Mo_first t1 t2 q).bind (fun r35 => k_Mo_step_156 r35)
def k_Mo_step_125 (t1 : Int32) (t2 : Int32) (q : z_Sg) : Option (Int32 × z_Sg) :=
  (f_Mo_second t1 t2 q).bind (fun r38 => k_Mo_step_156 r38)
def kb_Mo_step_46 (ih46 : Int32 × z_Sg → Option (Int32 × z_Sg)) (x1 : Int32) (q : z_Sg) : Option (Int32 × z_Sg) :=
  if (7 : Int32) ≤ x1 then ((f_Mo_open q).bind (fun r7 => z_nm (z_sL r7 7 ((z_gL r7 0) + ((z_gI r7 6).toInt64))) (fun q8 => if (z_gI q8 4) = (-1 : Int32) then (if (z_gI q8 18) = 0 then (if ((z_gI q8 15) &&& (1 : Int32)) = 0 then (k_Mo_step_153 (z_gI q8 15) (1 : Int32) q8) else ((f_Mo_wide q8).bind (fun r34 => k_Mo_step_153 (z_gI q8 15) r34 q8))) else (if ((z_gI q8 15) &&& (1 : Int32)) = 0 then (k_Mo_step_125 (z_gI q8 15) (1 : Int32) q8) else ((f_Mo_wide q8).bind (fun r37 => k_Mo_step_125 (z_gI q8 15) r37 q8)))) else (k_Mo_step_156 q8)))) else (if z_bad x1 7 then none else (if z_bad x1 7 then none else (z_nm (z_sN q 2 x1.toNatClampNeg (vp_nar .boolean (z_gN q 1 x1.toNatClampNeg))) (fun q41 => z_nm (x1 + (1 : Int32)) (fun n42 => ih46 (n42, q41))))))
def k_Mo_step_46 (x1 : Int32) (q : z_Sg) : Option (Int32 × z_Sg) := z_lo (fun ih46 a => kb_Mo_step_46 ih46 a.1 a.2) 2000 (x1, q)
def kb_Mo_step_20 (ih20 : Int32 × z_Sg → Option (Int32 × z_Sg)) (x1 : Int32) (q : z_Sg) : Option (Int32 × z_Sg) :=
  if (16 : Int32) ≤ x1 then (k_Mo_step_46 (0 : Int32) q) else (if z_bad x1 16 then none else (if z_bad x1 16 then none else (z_nm (z_sM q 1 x1.toNatClampNeg (z_gM q 0 x1.toNatClampNeg)) (fun q45 => z_nm (x1 + (1 : Int32)) (fun n46 => ih20 (n46, q45))))))
def k_Mo_step_20 (x1 : Int32) (q : z_Sg) : Option (Int32 × z_Sg) := z_lo (fun ih20 a => kb_Mo_step_20 ih20 a.1 a.2) 2000 (x1, q)
def f_Mo_step (q : z_Sg) : Option (Int32 × z_Sg) :=
  z_nm (z_sI q 4 (-1 : Int32)) (fun q1 => z_nm (z_sI q1 5 (0 : Int32)) (fun q2 => z_gd (z_bo (z_gI q2 2)) (z_nm (z_sI q2 3 (z_gI q2 2)) (fun q4 => k_Mo_step_20 (0 : Int32) q4))))
set_option maxHeartbeats 4000000 in
set_option maxRecDepth 100000 in
theorem wb_Mo_step_258 {p : Program} {l : Launch} {e : Env} {s : State} {m : MethodId} {args : Array Value} {below : List Frame} {meth : Method} {c : Code} {D : va_G} {A : Nat → Prop} {ad : Nat → Nat} {ca : Nat → ClassId} (o : (Int32 × z_Sg)) (C0 : z_cx z_RMo b_Mo_step 2 (some .int) D (z_Mt ca) A p s m args meth c) (q : z_Sg) (ih258 : Int32 × z_Sg → Option (Int32 × z_Sg)) (hi258 : ∀ a : Int32 × z_Sg, ih258 a = some o → ∀ (H : Heap) (locs : List Loc) (ls : Array Slot), z_wd D (z_M ad ca a.2) A s H locs → lv_has ls 2 [(0, .ref (ad 0)), (1, .int a.1)] → W p l e (z_rm 11 266) s m args below meth c H locs 0 0 (z_qi below D (z_Mt ca) (z_M ad ca o.2) A s args o.1) (F0 m 258 ls [])) (x1 : Int32) (h : kb_Mo_step_258 ih258 x1 q = some o) : ∀ (H : Heap) (locs : List Loc) (ls : Array Slot), z_wd D (z_M ad ca q) A s H locs → lv_has ls 2 [(0, .ref (ad 0)), (1, .int x1)] → W p l e (z_rm 11 266) s m args below meth c H locs 0 0 (z_qi below D (z_Mt ca) (z_M ad ca o.2) A s args o.1) (F0 m 258 ls []) := by
  obtain ⟨hx, hb, hr, hlk, hml, hown, hts, hK, hA⟩ := id C0
  intro H locs ls hw hl
  refine lv_iload_n hx hb d_Mo_step_258 rfl (lv_at hl 1 rfl) ?_
  refine lv_bipush (v := (7 : Int32)) hx hb d_Mo_step_259 (by decide) ?_
  refine lv_icmp_ge (tgt := 282) hx hb d_Mo_step_261 (by decide) (fun c14 => ?_) (fun c14 => ?_)
  · have h := ok_t h c14
    refine lv_aload_n hx hb d_Mo_step_282 rfl (lv_at hl 0 rfl) ?_
    refine gfM_0_refused C0 hw fl_Mo_28 d_Mo_step_283 ?_
    have ho := Option.some.inj h
    subst ho
    exact z_rti C0 hw d_Mo_step_286
  · have h := ok_f h c14
    refine lv_aload_n hx hb d_Mo_step_264 rfl (lv_at hl 0 rfl) ?_
    refine gfM_0_flag C0 hw fl_Mo_21 d_Mo_step_265 ?_
    refine lv_iload_n hx hb d_Mo_step_268 rfl (lv_at hl 1 rfl) ?_
    refine lv_aload_n hx hb d_Mo_step_269 rfl (lv_at hl 0 rfl) ?_
    refine gfM_0_oldFlag C0 hw fl_Mo_25 d_Mo_step_270 ?_
    refine lv_iload_n hx hb d_Mo_step_273 rfl (lv_at hl 1 rfl) ?_
    obtain ⟨b15, h⟩ := ok_g h
    refine alM_5 C0 hw b15 d_Mo_step_274 ?_
    obtain ⟨b16, h⟩ := ok_g h
    refine asM_4 C0 hw b16 d_Mo_step_275 (fun H locs hw => ?_)
    obtain ⟨q17, eq17, h⟩ := ok_n h
    rw [← eq17] at hw
    obtain ⟨n18, en18, h⟩ := ok_n h
    refine lv_iinc (v := n18) (lv' := [(1, .int n18), (0, .ref (ad 0))]) hx hb d_Mo_step_276 hl (k := 1) rfl (by rw [en18]; rfl) (by decide) rfl (fun ls hl => ?_)
    refine lv_goto (tgt := 258) hx hb d_Mo_step_279 (by decide) ?_
    exact hi258 (n18, q17) h H locs ls hw (lv_sub hl [1, 0] rfl)
theorem w_Mo_step_258 {p : Program} {l : Launch} {e : Env} {s : State} {m : MethodId} {args : Array Value} {below : List Frame} {meth : Method} {c : Code} {D : va_G} {A : Nat → Prop} {ad : Nat → Nat} {ca : Nat → ClassId} (o : (Int32 × z_Sg)) (C0 : z_cx z_RMo b_Mo_step 2 (some .int) D (z_Mt ca) A p s m args meth c) (q : z_Sg) (x1 : Int32) (h : k_Mo_step_258 x1 q = some o) : ∀ (H : Heap) (locs : List Loc) (ls : Array Slot), z_wd D (z_M ad ca q) A s H locs → lv_has ls 2 [(0, .ref (ad 0)), (1, .int x1)] → W p l e (z_rm 11 266) s m args below meth c H locs 0 0 (z_qi below D (z_Mt ca) (z_M ad ca o.2) A s args o.1) (F0 m 258 ls []) := by
  have key : ∀ (n : Nat) (a : Int32 × z_Sg), z_lo (fun ih258 a => kb_Mo_step_258 ih258 a.1 a.2) n a = some o → ∀ (H : Heap) (locs : List Loc) (ls : Array Slot), z_wd D (z_M ad ca a.2) A s H locs → lv_has ls 2 [(0, .ref (ad 0)), (1, .int a.1)] → W p l e (z_rm 11 266) s m args below meth c H locs 0 0 (z_qi below D (z_Mt ca) (z_M ad ca o.2) A s args o.1) (F0 m 258 ls []) := by
    intro n
    induction n with
    | zero => intro a h; cases h
    | succ n ih => exact fun a h => wb_Mo_step_258 o C0 a.2 (z_lo (fun ih258 a => kb_Mo_step_258 ih258 a.1 a.2) n) ih a.1 h
  exact key 2000 (x1, q) h
set_option maxHeartbeats 4000000 in
set_option maxRecDepth 100000 in
theorem wb_Mo_step_232 {p : Program} {l : Launch} {e : Env} {s : State} {m : MethodId} {args : Array Value} {below : List Frame} {meth : Method} {c : Code} {D : va_G} {A : Nat → Prop} {ad : Nat → Nat} {ca : Nat → ClassId} (o : (Int32 × z_Sg)) (C0 : z_cx z_RMo b_Mo_step 2 (some .int) D (z_Mt ca) A p s m args meth c) (q : z_Sg) (ih232 : Int32 × z_Sg → Option (Int32 × z_Sg)) (hi232 : ∀ a : Int32 × z_Sg, ih232 a = some o → ∀ (H : Heap) (locs : List Loc) (ls : Array Slot), z_wd D (z_M ad ca a.2) A s H locs → lv_has ls 2 [(0, .ref (ad 0)), (1, .int a.1)] → W p l e (z_rm 11 266) s m args below meth c H locs 0 0 (z_qi below D (z_Mt ca) (z_M ad ca o.2) A s args o.1) (F0 m 232 ls [])) (x1 : Int32) (h : kb_Mo_step_232 ih232 x1 q = some o) : ∀ (H : Heap) (locs : List Loc) (ls : Array Slot), z_wd D (z_M ad ca q) A s H locs → lv_has ls 2 [(0, .ref (ad 0)), (1, .int x1)] → W p l e (z_rm 11 266) s m args below meth c H locs 0 0 (z_qi below D (z_Mt ca) (z_M ad ca o.2) A s args o.1) (F0 m 232 ls []) := by
  obtain ⟨hx, hb, hr, hlk, hml, hown, hts, hK, hA⟩ := id C0
  intro H locs ls hw hl
  refine lv_iload_n hx hb d_Mo_step_232 rfl (lv_at hl 1 rfl) ?_
  refine lv_bipush (v := (16 : Int32)) hx hb d_Mo_step_233 (by decide) ?_
  refine lv_icmp_ge (tgt := 256) hx hb d_Mo_step_235 (by decide) (fun c13 => ?_) (fun c13 => ?_)
  · have h := ok_t h c13
    refine lv_iconst (v := (0 : Int32)) hx hb d_Mo_step_256 (by decide) ?_
    refine lv_istore_n (lv' := [(1, .int (0 : Int32)), (0, .ref (ad 0))]) hx hb d_Mo_step_257 rfl hl (by decide) rfl (fun ls hl => ?_)
    exact w_Mo_step_258 o C0 q (0 : Int32) h H locs ls hw (lv_sub hl [1, 0] rfl)
  · have h := ok_f h c13
    refine lv_aload_n hx hb d_Mo_step_238 rfl (lv_at hl 0 rfl) ?_
    refine gfM_0_r C0 hw fl_Mo_14 d_Mo_step_239 ?_
    refine lv_iload_n hx hb d_Mo_step_242 rfl (lv_at hl 1 rfl) ?_
    refine lv_aload_n hx hb d_Mo_step_243 rfl (lv_at hl 0 rfl) ?_
    refine gfM_0_old C0 hw fl_Mo_18 d_Mo_step_244 ?_
    refine lv_iload_n hx hb d_Mo_step_247 rfl (lv_at hl 1 rfl) ?_
    obtain ⟨b19, h⟩ := ok_g h
    refine alM_3 C0 hw b19 d_Mo_step_248 ?_
    obtain ⟨b20, h⟩ := ok_g h
    refine asM_2 C0 hw b20 d_Mo_step_249 (fun H locs hw => ?_)
    obtain ⟨q21, eq21, h⟩ := ok_n h
    rw [← eq21] at hw
    obtain ⟨n22, en22, h⟩ := ok_n h
    refine lv_iinc (v := n22) (lv' := [(1, .int n22), (0, .ref (ad 0))]) hx hb d_Mo_step_250 hl (k := 1) rfl (by rw [en22]; rfl) (by decide) rfl (fun ls hl => ?_)
    refine lv_goto (tgt := 232) hx hb d_Mo_step_253 (by decide) ?_
    exact hi232 (n22, q21) h H locs ls hw (lv_sub hl [1, 0] rfl)
theorem w_Mo_step_232 {p : Program} {l : Launch} {e : Env} {s : State} {m : MethodId} {args : Array Value} {below : List Frame} {meth : Method} {c : Code} {D : va_G} {A : Nat → Prop} {ad : Nat → Nat} {ca : Nat → ClassId} (o : (Int32 × z_Sg)) (C0 : z_cx z_RMo b_Mo_step 2 (some .int) D (z_Mt ca) A p s m args meth c) (q : z_Sg) (x1 : Int32) (h : k_Mo_step_232 x1 q = some o) : ∀ (H : Heap) (locs : List Loc) (ls : Array Slot), z_wd D (z_M ad ca q) A s H locs → lv_has ls 2 [(0, .ref (ad 0)), (1, .int x1)] → W p l e (z_rm 11 266) s m args below meth c H locs 0 0 (z_qi below D (z_Mt ca) (z_M ad ca o.2) A s args o.1) (F0 m 232 ls []) := by
  have key : ∀ (n : Nat) (a : Int32 × z_Sg), z_lo (fun ih232 a => kb_Mo_step_232 ih232 a.1 a.2) n a = some o → ∀ (H : Heap) (locs : List Loc) (ls : Array Slot), z_wd D (z_M ad ca a.2) A s H locs → lv_has ls 2 [(0, .ref (ad 0)), (1, .int a.1)] → W p l e (z_rm 11 266) s m args below meth c H locs 0 0 (z_qi below D (z_Mt ca) (z_M ad ca o.2) A s args o.1) (F0 m 232 ls []) := by
    intro n
    induction n with
    | zero => intro a h; cases h
    | succ n ih => exact fun a h => wb_Mo_step_232 o C0 a.2 (z_lo (fun ih232 a => kb_Mo_step_232 ih232 a.1 a.2) n) ih a.1 h
  exact key 2000 (x1, q) h
set_option maxHeartbeats 4000000 in
set_option maxRecDepth 100000 in
theorem w_Mo_step_214 {p : Program} {l : Launch} {e : Env} {s : State} {m : MethodId} {args : Array Value} {below : List Frame} {meth : Method} {c : Code} {D : va_G} {A : Nat → Prop} {ad : Nat → Nat} {ca : Nat → ClassId} (o : (Int32 × z_Sg)) (C0 : z_cx z_RMo b_Mo_step 2 (some .int) D (z_Mt ca) A p s m args meth c) (q : z_Sg) (ih174 : Int32 × z_Sg → Option (Int32 × z_Sg)) (hi174 : ∀ a : Int32 × z_Sg, ih174 a = some o → ∀ (H : Heap) (locs : List Loc) (ls : Array Slot), z_wd D (z_M ad ca a.2) A s H locs → lv_has ls 2 [(0, .ref (ad 0)), (1, .int a.1)] → W p l e (z_rm 11 266) s m args below meth c H locs 0 0 (z_qi below D (z_Mt ca) (z_M ad ca o.2) A s args o.1) (F0 m 174 ls [])) (x1 : Int32) (h : k_Mo_step_214 ih174 x1 q = some o) : ∀ (H : Heap) (locs : List Loc) (ls : Array Slot), z_wd D (z_M ad ca q) A s H locs → lv_has ls 2 [(0, .ref (ad 0)), (1, .int x1)] → W p l e (z_rm 11 266) s m args below meth c H locs 0 0 (z_qi below D (z_Mt ca) (z_M ad ca o.2) A s args o.1) (F0 m 214 ls []) := by
  obtain ⟨hx, hb, hr, hlk, hml, hown, hts, hK, hA⟩ := id C0
  intro H locs ls hw hl
  obtain ⟨n27, en27, h⟩ := ok_n h
  refine lv_iinc (v := n27) (lv' := [(1, .int n27), (0, .ref (ad 0))]) hx hb d_Mo_step_214 hl (k := 1) rfl (by rw [en27]; rfl) (by decide) rfl (fun ls hl => ?_)
  refine lv_goto (tgt := 174) hx hb d_Mo_step_217 (by decide) ?_
  exact hi174 (n27, q) h H locs ls hw (lv_sub hl [1, 0] rfl)
set_option maxHeartbeats 4000000 in
set_option maxRecDepth 100000 in
theorem wb_Mo_step_174 {p : Program} {l : Launch} {e : Env} {s : State} {m : MethodId} {args : Array Value} {below : List Frame} {meth : Method} {c : Code} {D : va_G} {A : Nat → Prop} {ad : Nat → Nat} {ca : Nat → ClassId} (o : (Int32 × z_Sg)) (C0 : z_cx z_RMo b_Mo_step 2 (some .int) D (z_Mt ca) A p s m args meth c) (q : z_Sg) (ih174 : Int32 × z_Sg → Option (Int32 × z_Sg)) (hi174 : ∀ a : Int32 × z_Sg, ih174 a = some o → ∀ (H : Heap) (locs : List Loc) (ls : Array Slot), z_wd D (z_M ad ca a.2) A s H locs → lv_has ls 2 [(0, .ref (ad 0)), (1, .int a.1)] → W p l e (z_rm 11 266) s m args below meth c H locs 0 0 (z_qi below D (z_Mt ca) (z_M ad ca o.2) A s args o.1) (F0 m 174 ls [])) (x1 : Int32) (h : kb_Mo_step_174 ih174 x1 q = some o) : ∀ (H : Heap) (locs : List Loc) (ls : Array Slot), z_wd D (z_M ad ca q) A s H locs → lv_has ls 2 [(0, .ref (ad 0)), (1, .int x1)] → W p l e (z_rm 11 266) s m args below meth c H locs 0 0 (z_qi below D (z_Mt ca) (z_M ad ca o.2) A s args o.1) (F0 m 174 ls []) := by
  obtain ⟨hx, hb, hr, hlk, hml, hown, hts, hK, hA⟩ := id C0
  intro H locs ls hw hl
  refine lv_iload_n hx hb d_Mo_step_174 rfl (lv_at hl 1 rfl) ?_
  refine lv_aload_n hx hb d_Mo_step_175 rfl (lv_at hl 0 rfl) ?_
  refine gfM_0_waits C0 hw fl_Mo_103 d_Mo_step_176 ?_
  refine lv_icmp_ge (tgt := 220) hx hb d_Mo_step_179 (by decide) (fun c24 => ?_) (fun c24 => ?_)
  · have h := ok_t h c24
    refine lv_iconst (v := (-1 : Int32)) hx hb d_Mo_step_220 (by decide) ?_
    have ho := Option.some.inj h
    subst ho
    exact z_rti C0 hw d_Mo_step_221
  · have h := ok_f h c24
    refine lv_aload_n hx hb d_Mo_step_182 rfl (lv_at hl 0 rfl) ?_
    refine gfM_0_waitAt C0 hw fl_Mo_32 d_Mo_step_183 ?_
    refine lv_iload_n hx hb d_Mo_step_186 rfl (lv_at hl 1 rfl) ?_
    obtain ⟨b25, h⟩ := ok_g h
    refine alM_6 C0 hw b25 d_Mo_step_187 ?_
    refine lv_ldc2 (own := z_RMo) hx hb hown (hts _ kl_Mo_42) d_Mo_step_188 ?_
    refine W.lcmp hx hb d_Mo_step_191 ?_
    refine lv_if_ge (tgt := 214) hx hb d_Mo_step_192 (by decide) (fun c26 => ?_) (fun c26 => ?_)
    · have h := ok_t h ((lg_cmp_ge _ _).mp c26)
      exact w_Mo_step_214 o C0 q ih174 hi174 x1 h H locs ls hw (lv_sub hl [0, 1] rfl)
    · have h := ok_f h (fun z => c26 ((lg_cmp_ge _ _).mpr z))
      refine lv_aload_n hx hb d_Mo_step_195 rfl (lv_at hl 0 rfl) ?_
      refine gfM_0_memory C0 hw fl_Mo_8 d_Mo_step_196 ?_
      refine lv_aload_n hx hb d_Mo_step_199 rfl (lv_at hl 0 rfl) ?_
      refine gfM_0_waitAt C0 hw fl_Mo_32 d_Mo_step_200 ?_
      refine lv_iload_n hx hb d_Mo_step_203 rfl (lv_at hl 1 rfl) ?_
      obtain ⟨b28, h⟩ := ok_g h
      refine alM_6 C0 hw b28 d_Mo_step_204 ?_
      refine lv_l2i hx hb d_Mo_step_205 rfl ?_
      refine lv_aload_n hx hb d_Mo_step_206 rfl (lv_at hl 0 rfl) ?_
      refine gfM_0_waitByte C0 hw fl_Mo_35 d_Mo_step_207 ?_
      refine lv_iload_n hx hb d_Mo_step_210 rfl (lv_at hl 1 rfl) ?_
      obtain ⟨b29, h⟩ := ok_g h
      refine alM_7 C0 hw b29 d_Mo_step_211 ?_
      refine lv_i2b hx hb d_Mo_step_212 rfl ?_
      obtain ⟨b30, h⟩ := ok_g h
      refine asM_1 C0 hw b30 d_Mo_step_213 (fun H locs hw => ?_)
      obtain ⟨q31, eq31, h⟩ := ok_n h
      rw [← eq31] at hw
      exact w_Mo_step_214 o C0 q31 ih174 hi174 x1 h H locs ls hw (lv_sub hl [0, 1] rfl)
theorem w_Mo_step_174 {p : Program} {l : Launch} {e : Env} {s : State} {m : MethodId} {args : Array Value} {below : List Frame} {meth : Method} {c : Code} {D : va_G} {A : Nat → Prop} {ad : Nat → Nat} {ca : Nat → ClassId} (o : (Int32 × z_Sg)) (C0 : z_cx z_RMo b_Mo_step 2 (some .int) D (z_Mt ca) A p s m args meth c) (q : z_Sg) (x1 : Int32) (h : k_Mo_step_174 x1 q = some o) : ∀ (H : Heap) (locs : List Loc) (ls : Array Slot), z_wd D (z_M ad ca q) A s H locs → lv_has ls 2 [(0, .ref (ad 0)), (1, .int x1)] → W p l e (z_rm 11 266) s m args below meth c H locs 0 0 (z_qi below D (z_Mt ca) (z_M ad ca o.2) A s args o.1) (F0 m 174 ls []) := by
  have key : ∀ (n : Nat) (a : Int32 × z_Sg), z_lo (fun ih174 a => kb_Mo_step_174 ih174 a.1 a.2) n a = some o → ∀ (H : Heap) (locs : List Loc) (ls : Array Slot), z_wd D (z_M ad ca a.2) A s H locs → lv_has ls 2 [(0, .ref (ad 0)), (1, .int a.1)] → W p l e (z_rm 11 266) s m args below meth c H locs 0 0 (z_qi below D (z_Mt ca) (z_M ad ca o.2) A s args o.1) (F0 m 174 ls []) := by
    intro n
    induction n with
    | zero => intro a h; cases h
    | succ n ih => exact fun a h => wb_Mo_step_174 o C0 a.2 (z_lo (fun ih174 a => kb_Mo_step_174 ih174 a.1 a.2) n) ih a.1 h
  exact key 2000 (x1, q) h
set_option maxHeartbeats 4000000 in
set_option maxRecDepth 100000 in
theorem w_Mo_step_156 {p : Program} {l : Launch} {e : Env} {s : State} {m : MethodId} {args : Array Value} {below : List Frame} {meth : Method} {c : Code} {D : va_G} {A : Nat → Prop} {ad : Nat → Nat} {ca : Nat → ClassId} (o : (Int32 × z_Sg)) (C0 : z_cx z_RMo b_Mo_step 2 (some .int) D (z_Mt ca) A p s m args meth c) (q : z_Sg) (h : k_Mo_step_156 q = some o) : ∀ (H : Heap) (locs : List Loc) (ls : Array Slot), z_wd D (z_M ad ca q) A s H locs → lv_has ls 2 [(0, .ref (ad 0))] → W p l e (z_rm 11 266) s m args below meth c H locs 0 0 (z_qi below D (z_Mt ca) (z_M ad ca o.2) A s args o.1) (F0 m 156 ls []) := by
  obtain ⟨hx, hb, hr, hlk, hml, hown, hts, hK, hA⟩ := id C0
  intro H locs ls hw hl
  refine lv_aload_n hx hb d_Mo_step_156 rfl (lv_at hl 0 rfl) ?_
  refine gfM_0_refused C0 hw fl_Mo_28 d_Mo_step_157 ?_
  refine lv_iconst (v := (-1 : Int32)) hx hb d_Mo_step_160 (by decide) ?_
  refine lv_icmp_ne (tgt := 222) hx hb d_Mo_step_161 (by decide) (fun c10 => ?_) (fun c10 => ?_)
  · have h := ok_f h c10
    refine lv_aload_n hx hb d_Mo_step_222 rfl (lv_at hl 0 rfl) ?_
    refine lv_aload_n hx hb d_Mo_step_223 rfl (lv_at hl 0 rfl) ?_
    refine gfM_0_oldUser C0 hw fl_Mo_229 d_Mo_step_224 ?_
    obtain ⟨b11, h⟩ := ok_G h
    refine pfM_0_user C0 hw b11 fl_Mo_48 d_Mo_step_227 (fun H locs hw => ?_)
    obtain ⟨q12, eq12, h⟩ := ok_n h
    rw [← eq12] at hw
    refine lv_iconst (v := (0 : Int32)) hx hb d_Mo_step_230 (by decide) ?_
    refine lv_istore_n (lv' := [(1, .int (0 : Int32)), (0, .ref (ad 0))]) hx hb d_Mo_step_231 rfl hl (by decide) rfl (fun ls hl => ?_)
    exact w_Mo_step_232 o C0 q12 (0 : Int32) h H locs ls hw (lv_sub hl [1, 0] rfl)
  · have h := ok_t h c10
    refine lv_aload_n hx hb d_Mo_step_164 rfl (lv_at hl 0 rfl) ?_
    refine lv_aload_n hx hb d_Mo_step_165 rfl (lv_at hl 0 rfl) ?_
    refine gfM_0_goes C0 hw fl_Mo_173 d_Mo_step_166 ?_
    refine pfM_0_next C0 hw fl_Mo_111 d_Mo_step_169 (fun H locs hw => ?_)
    obtain ⟨q23, eq23, h⟩ := ok_n h
    rw [← eq23] at hw
    refine lv_iconst (v := (0 : Int32)) hx hb d_Mo_step_172 (by decide) ?_
    refine lv_istore_n (lv' := [(1, .int (0 : Int32)), (0, .ref (ad 0))]) hx hb d_Mo_step_173 rfl hl (by decide) rfl (fun ls hl => ?_)
    exact w_Mo_step_174 o C0 q23 (0 : Int32) h H locs ls hw (lv_sub hl [1, 0] rfl)
set_option maxHeartbeats 4000000 in
set_option maxRecDepth 100000 in
theorem w_Mo_step_153 {p : Program} {l : Launch} {e : Env} {s : State} {m : MethodId} {args : Array Value} {below : List Frame} {meth : Method} {c : Code} {D : va_G} {A : Nat → Prop} {ad : Nat → Nat} {ca : Nat → ClassId} (o : (Int32 × z_Sg)) (C0 : z_cx z_RMo b_Mo_step 2 (some .int) D (z_Mt ca) A p s m args meth c) (q : z_Sg) (t1 : Int32) (t2 : Int32) (h : k_Mo_step_153 t1 t2 q = some o) : ∀ (H : Heap) (locs : List Loc) (ls : Array Slot), z_wd D (z_M ad ca q) A s H locs → lv_has ls 2 [(0, .ref (ad 0))] → W p l e (z_rm 11 266) s m args below meth c H locs 0 0 (z_qi below D (z_Mt ca) (z_M ad ca o.2) A s args o.1) (F0 m 153 ls [.int t2, .int t1, .ref (ad 0)]) := by
  obtain ⟨hx, hb, hr, hlk, hml, hown, hts, hK, hA⟩ := id C0
  intro H locs ls hw hl
  obtain ⟨r35, er35, h⟩ := ok_b h
  refine z_vv (rest := []) C0 hw (c_Mo_first t1 t2 q r35 er35) mw_Mo_first ml_Mo_242 0 rfl ⟨Nat.le_of_ble_eq_true rfl, Nat.le_of_ble_eq_true rfl⟩ ⟨Nat.le_refl 0, Nat.le_refl 0⟩ rfl hl.1 rfl (Nat.le_of_ble_eq_true rfl) d_Mo_step_153 (fun H locs hw => ?_)
  exact w_Mo_step_156 o C0 r35 h H locs ls hw (lv_sub hl [0] rfl)
set_option maxHeartbeats 4000000 in
set_option maxRecDepth 100000 in
theorem w_Mo_step_125 {p : Program} {l : Launch} {e : Env} {s : State} {m : MethodId} {args : Array Value} {below : List Frame} {meth : Method} {c : Code} {D : va_G} {A : Nat → Prop} {ad : Nat → Nat} {ca : Nat → ClassId} (o : (Int32 × z_Sg)) (C0 : z_cx z_RMo b_Mo_step 2 (some .int) D (z_Mt ca) A p s m args meth c) (q : z_Sg) (t1 : Int32) (t2 : Int32) (h : k_Mo_step_125 t1 t2 q = some o) : ∀ (H : Heap) (locs : List Loc) (ls : Array Slot), z_wd D (z_M ad ca q) A s H locs → lv_has ls 2 [(0, .ref (ad 0))] → W p l e (z_rm 11 266) s m args below meth c H locs 0 0 (z_qi below D (z_Mt ca) (z_M ad ca o.2) A s args o.1) (F0 m 125 ls [.int t2, .int t1, .ref (ad 0)]) := by
  obtain ⟨hx, hb, hr, hlk, hml, hown, hts, hK, hA⟩ := id C0
  intro H locs ls hw hl
  obtain ⟨r38, er38, h⟩ := ok_b h
  refine z_vv (rest := []) C0 hw (c_Mo_second t1 t2 q r38 er38) mw_Mo_second ml_Mo_238 0 rfl ⟨Nat.le_of_ble_eq_true rfl, Nat.le_of_ble_eq_true rfl⟩ ⟨Nat.le_refl 0, Nat.le_refl 0⟩ rfl hl.1 rfl (Nat.le_of_ble_eq_true rfl) d_Mo_step_125 (fun H locs hw => ?_)
  refine lv_goto (tgt := 156) hx hb d_Mo_step_128 (by decide) ?_
  exact w_Mo_step_156 o C0 r38 h H locs ls hw (lv_sub hl [0] rfl)
set_option maxHeartbeats 4000000 in
set_option maxRecDepth 100000 in
theorem wb_Mo_step_46 {p : Program} {l : Launch} {e : Env} {s : State} {m : MethodId} {args : Array Value} {below : List Frame} {meth : Method} {c : Code} {D : va_G} {A : Nat → Prop} {ad : Nat → Nat} {ca : Nat → ClassId} (o : (Int32 × z_Sg)) (C0 : z_cx z_RMo b_Mo_step 2 (some .int) D (z_Mt ca) A p s m args meth c) (q : z_Sg) (ih46 : Int32 × z_Sg → Option (Int32 × z_Sg)) (hi46 : ∀ a : Int32 × z_Sg, ih46 a = some o → ∀ (H : Heap) (locs : List Loc) (ls : Array Slot), z_wd D (z_M ad ca a.2) A s H locs → lv_has ls 2 [(0, .ref (ad 0)), (1, .int a.1)] → W p l e (z_rm 11 266) s m args below meth c H locs 0 0 (z_qi below D (z_Mt ca) (z_M ad ca o.2) A s args o.1) (F0 m 46 ls [])) (x1 : Int32) (h : kb_Mo_step_46 ih46 x1 q = some o) : ∀ (H : Heap) (locs : List Loc) (ls : Array Slot), z_wd D (z_M ad ca q) A s H locs → lv_has ls 2 [(0, .ref (ad 0)), (1, .int x1)] → W p l e (z_rm 11 266) s m args below meth c H locs 0 0 (z_qi below D (z_Mt ca) (z_M ad ca o.2) A s args o.1) (F0 m 46 ls []) := by
  obtain ⟨hx, hb, hr, hlk, hml, hown, hts, hK, hA⟩ := id C0
  intro H locs ls hw hl
  refine lv_iload_n hx hb d_Mo_step_46 rfl (lv_at hl 1 rfl) ?_
  refine lv_bipush (v := (7 : Int32)) hx hb d_Mo_step_47 (by decide) ?_
  refine lv_icmp_ge (tgt := 70) hx hb d_Mo_step_49 (by decide) (fun c6 => ?_) (fun c6 => ?_)
  · have h := ok_t h c6
    refine lv_aload_n hx hb d_Mo_step_70 rfl (lv_at hl 0 rfl) ?_
    obtain ⟨r7, er7, h⟩ := ok_b h
    refine z_vv (rest := []) C0 hw (c_Mo_open q r7 er7) mw_Mo_open ml_Mo_232 0 rfl ⟨Nat.le_of_ble_eq_true rfl, Nat.le_of_ble_eq_true rfl⟩ ⟨Nat.le_refl 0, Nat.le_refl 0⟩ rfl hl.1 rfl (Nat.le_of_ble_eq_true rfl) d_Mo_step_71 (fun H locs hw => ?_)
    refine lv_aload_n hx hb d_Mo_step_74 rfl (lv_at hl 0 rfl) ?_
    refine lv_aload_n hx hb d_Mo_step_75 rfl (lv_at hl 0 rfl) ?_
    refine gfM_0_next C0 hw fl_Mo_111 d_Mo_step_76 ?_
    refine lv_aload_n hx hb d_Mo_step_79 rfl (lv_at hl 0 rfl) ?_
    refine gfM_0_length C0 hw fl_Mo_108 d_Mo_step_80 ?_
    refine lv_i2l hx hb d_Mo_step_83 rfl ?_
    refine lv_ladd hx hb d_Mo_step_84 ?_
    refine pfM_0_goes C0 hw fl_Mo_173 d_Mo_step_85 (fun H locs hw => ?_)
    obtain ⟨q8, eq8, h⟩ := ok_n h
    rw [← eq8] at hw
    refine lv_aload_n hx hb d_Mo_step_88 rfl (lv_at hl 0 rfl) ?_
    refine gfM_0_refused C0 hw fl_Mo_28 d_Mo_step_89 ?_
    refine lv_iconst (v := (-1 : Int32)) hx hb d_Mo_step_92 (by decide) ?_
    refine lv_icmp_ne (tgt := 156) hx hb d_Mo_step_93 (by decide) (fun c9 => ?_) (fun c9 => ?_)
    · have h := ok_f h c9
      exact w_Mo_step_156 o C0 q8 h H locs ls hw (lv_sub hl [0] rfl)
    · have h := ok_t h c9
      refine lv_aload_n hx hb d_Mo_step_96 rfl (lv_at hl 0 rfl) ?_
      refine gfM_0_two C0 hw fl_Mo_130 d_Mo_step_97 ?_
      refine lv_if_eq (tgt := 131) hx hb d_Mo_step_100 (by decide) (fun c32 => ?_) (fun c32 => ?_)
      · have h := ok_t h c32
        refine lv_aload_n hx hb d_Mo_step_131 rfl (lv_at hl 0 rfl) ?_
        refine lv_aload_n hx hb d_Mo_step_132 rfl (lv_at hl 0 rfl) ?_
        refine gfM_0_opcode C0 hw fl_Mo_133 d_Mo_step_133 ?_
        refine lv_aload_n hx hb d_Mo_step_136 rfl (lv_at hl 0 rfl) ?_
        refine gfM_0_opcode C0 hw fl_Mo_133 d_Mo_step_137 ?_
        refine lv_iconst (v := (1 : Int32)) hx hb d_Mo_step_140 (by decide) ?_
        refine lv_iand hx hb d_Mo_step_141 ?_
        refine lv_if_ne (tgt := 149) hx hb d_Mo_step_142 (by decide) (fun c33 => ?_) (fun c33 => ?_)
        · have h := ok_f h c33
          refine lv_aload_n hx hb d_Mo_step_149 rfl (lv_at hl 0 rfl) ?_
          obtain ⟨r34, er34, h⟩ := ok_b h
          refine z_vi (rest := [.int (z_gI q8 15), .ref (ad 0)]) C0 hw (c_Mo_wide q8 r34 er34) mw_Mo_wide ml_Mo_235 0 rfl ⟨Nat.le_of_ble_eq_true rfl, Nat.le_of_ble_eq_true rfl⟩ ⟨Nat.le_refl 0, Nat.le_refl 0⟩ rfl hl.1 rfl (Nat.le_of_ble_eq_true rfl) d_Mo_step_150 (fun H locs hw => ?_)
          exact w_Mo_step_153 o C0 q8 (z_gI q8 15) r34 h H locs ls hw (lv_sub hl [0] rfl)
        · have h := ok_t h c33
          refine lv_iconst (v := (1 : Int32)) hx hb d_Mo_step_145 (by decide) ?_
          refine lv_goto (tgt := 153) hx hb d_Mo_step_146 (by decide) ?_
          exact w_Mo_step_153 o C0 q8 (z_gI q8 15) (1 : Int32) h H locs ls hw (lv_sub hl [0] rfl)
      · have h := ok_f h c32
        refine lv_aload_n hx hb d_Mo_step_103 rfl (lv_at hl 0 rfl) ?_
        refine lv_aload_n hx hb d_Mo_step_104 rfl (lv_at hl 0 rfl) ?_
        refine gfM_0_opcode C0 hw fl_Mo_133 d_Mo_step_105 ?_
        refine lv_aload_n hx hb d_Mo_step_108 rfl (lv_at hl 0 rfl) ?_
        refine gfM_0_opcode C0 hw fl_Mo_133 d_Mo_step_109 ?_
        refine lv_iconst (v := (1 : Int32)) hx hb d_Mo_step_112 (by decide) ?_
        refine lv_iand hx hb d_Mo_step_113 ?_
        refine lv_if_ne (tgt := 121) hx hb d_Mo_step_114 (by decide) (fun c36 => ?_) (fun c36 => ?_)
        · have h := ok_f h c36
          refine lv_aload_n hx hb d_Mo_step_121 rfl (lv_at hl 0 rfl) ?_
          obtain ⟨r37, er37, h⟩ := ok_b h
          refine z_vi (rest := [.int (z_gI q8 15), .ref (ad 0)]) C0 hw (c_Mo_wide q8 r37 er37) mw_Mo_wide ml_Mo_235 0 rfl ⟨Nat.le_of_ble_eq_true rfl, Nat.le_of_ble_eq_true rfl⟩ ⟨Nat.le_refl 0, Nat.le_refl 0⟩ rfl hl.1 rfl (Nat.le_of_ble_eq_true rfl) d_Mo_step_122 (fun H locs hw => ?_)
          exact w_Mo_step_125 o C0 q8 (z_gI q8 15) r37 h H locs ls hw (lv_sub hl [0] rfl)
        · have h := ok_t h c36
          refine lv_iconst (v := (1 : Int32)) hx hb d_Mo_step_117 (by decide) ?_
          refine lv_goto (tgt := 125) hx hb d_Mo_step_118 (by decide) ?_
          exact w_Mo_step_125 o C0 q8 (z_gI q8 15) (1 : Int32) h H locs ls hw (lv_sub hl [0] rfl)
  · have h := ok_f h c6
    refine lv_aload_n hx hb d_Mo_step_52 rfl (lv_at hl 0 rfl) ?_
    refine gfM_0_oldFlag C0 hw fl_Mo_25 d_Mo_step_53 ?_
    refine lv_iload_n hx hb d_Mo_step_56 rfl (lv_at hl 1 rfl) ?_
    refine lv_aload_n hx hb d_Mo_step_57 rfl (lv_at hl 0 rfl) ?_
    refine gfM_0_flag C0 hw fl_Mo_21 d_Mo_step_58 ?_
    refine lv_iload_n hx hb d_Mo_step_61 rfl (lv_at hl 1 rfl) ?_
    obtain ⟨b39, h⟩ := ok_g h
    refine alM_4 C0 hw b39 d_Mo_step_62 ?_
    obtain ⟨b40, h⟩ := ok_g h
    refine asM_5 C0 hw b40 d_Mo_step_63 (fun H locs hw => ?_)
    obtain ⟨q41, eq41, h⟩ := ok_n h
    rw [← eq41] at hw
    obtain ⟨n42, en42, h⟩ := ok_n h
    refine lv_iinc (v := n42) (lv' := [(1, .int n42), (0, .ref (ad 0))]) hx hb d_Mo_step_64 hl (k := 1) rfl (by rw [en42]; rfl) (by decide) rfl (fun ls hl => ?_)
    refine lv_goto (tgt := 46) hx hb d_Mo_step_67 (by decide) ?_
    exact hi46 (n42, q41) h H locs ls hw (lv_sub hl [1, 0] rfl)
theorem w_Mo_step_46 {p : Program} {l : Launch} {e : Env} {s : State} {m : MethodId} {args : Array Value} {below : List Frame} {meth : Method} {c : Code} {D : va_G} {A : Nat → Prop} {ad : Nat → Nat} {ca : Nat → ClassId} (o : (Int32 × z_Sg)) (C0 : z_cx z_RMo b_Mo_step 2 (some .int) D (z_Mt ca) A p s m args meth c) (q : z_Sg) (x1 : Int32) (h : k_Mo_step_46 x1 q = some o) : ∀ (H : Heap) (locs : List Loc) (ls : Array Slot), z_wd D (z_M ad ca q) A s H locs → lv_has ls 2 [(0, .ref (ad 0)), (1, .int x1)] → W p l e (z_rm 11 266) s m args below meth c H locs 0 0 (z_qi below D (z_Mt ca) (z_M ad ca o.2) A s args o.1) (F0 m 46 ls []) := by
  have key : ∀ (n : Nat) (a : Int32 × z_Sg), z_lo (fun ih46 a => kb_Mo_step_46 ih46 a.1 a.2) n a = some o → ∀ (H : Heap) (locs : List Loc) (ls : Array Slot), z_wd D (z_M ad ca a.2) A s H locs → lv_has ls 2 [(0, .ref (ad 0)), (1, .int a.1)] → W p l e (z_rm 11 266) s m args below meth c H locs 0 0 (z_qi below D (z_Mt ca) (z_M ad ca o.2) A s args o.1) (F0 m 46 ls []) := by
    intro n
    induction n with
    | zero => intro a h; cases h
    | succ n ih => exact fun a h => wb_Mo_step_46 o C0 a.2 (z_lo (fun ih46 a => kb_Mo_step_46 ih46 a.1 a.2) n) ih a.1 h
  exact key 2000 (x1, q) h
set_option maxHeartbeats 4000000 in
set_option maxRecDepth 100000 in
theorem wb_Mo_step_20 {p : Program} {l : Launch} {e : Env} {s : State} {m : MethodId} {args : Array Value} {below : List Frame} {meth : Method} {c : Code} {D : va_G} {A : Nat → Prop} {ad : Nat → Nat} {ca : Nat → ClassId} (o : (Int32 × z_Sg)) (C0 : z_cx z_RMo b_Mo_step 2 (some .int) D (z_Mt ca) A p s m args meth c) (q : z_Sg) (ih20 : Int32 × z_Sg → Option (Int32 × z_Sg)) (hi20 : ∀ a : Int32 × z_Sg, ih20 a = some o → ∀ (H : Heap) (locs : List Loc) (ls : Array Slot), z_wd D (z_M ad ca a.2) A s H locs → lv_has ls 2 [(0, .ref (ad 0)), (1, .int a.1)] → W p l e (z_rm 11 266) s m args below meth c H locs 0 0 (z_qi below D (z_Mt ca) (z_M ad ca o.2) A s args o.1) (F0 m 20 ls [])) (x1 : Int32) (h : kb_Mo_step_20 ih20 x1 q = some o) : ∀ (H : Heap) (locs : List Loc) (ls : Array Slot), z_wd D (z_M ad ca q) A s H locs → lv_has ls 2 [(0, .ref (ad 0)), (1, .int x1)] → W p l e (z_rm 11 266) s m args below meth c H locs 0 0 (z_qi below D (z_Mt ca) (z_M ad ca o.2) A s args o.1) (F0 m 20 ls []) := by
  obtain ⟨hx, hb, hr, hlk, hml, hown, hts, hK, hA⟩ := id C0
  intro H locs ls hw hl
  refine lv_iload_n hx hb d_Mo_step_20 rfl (lv_at hl 1 rfl) ?_
  refine lv_bipush (v := (16 : Int32)) hx hb d_Mo_step_21 (by decide) ?_
  refine lv_icmp_ge (tgt := 44) hx hb d_Mo_step_23 (by decide) (fun c5 => ?_) (fun c5 => ?_)
  · have h := ok_t h c5
    refine lv_iconst (v := (0 : Int32)) hx hb d_Mo_step_44 (by decide) ?_
    refine lv_istore_n (lv' := [(1, .int (0 : Int32)), (0, .ref (ad 0))]) hx hb d_Mo_step_45 rfl hl (by decide) rfl (fun ls hl => ?_)
    exact w_Mo_step_46 o C0 q (0 : Int32) h H locs ls hw (lv_sub hl [1, 0] rfl)
  · have h := ok_f h c5
    refine lv_aload_n hx hb d_Mo_step_26 rfl (lv_at hl 0 rfl) ?_
    refine gfM_0_old C0 hw fl_Mo_18 d_Mo_step_27 ?_
    refine lv_iload_n hx hb d_Mo_step_30 rfl (lv_at hl 1 rfl) ?_
    refine lv_aload_n hx hb d_Mo_step_31 rfl (lv_at hl 0 rfl) ?_
    refine gfM_0_r C0 hw fl_Mo_14 d_Mo_step_32 ?_
    refine lv_iload_n hx hb d_Mo_step_35 rfl (lv_at hl 1 rfl) ?_
    obtain ⟨b43, h⟩ := ok_g h
    refine alM_2 C0 hw b43 d_Mo_step_36 ?_
    obtain ⟨b44, h⟩ := ok_g h
    refine asM_3 C0 hw b44 d_Mo_step_37 (fun H locs hw => ?_)
    obtain ⟨q45, eq45, h⟩ := ok_n h
    rw [← eq45] at hw
    obtain ⟨n46, en46, h⟩ := ok_n h
    refine lv_iinc (v := n46) (lv' := [(1, .int n46), (0, .ref (ad 0))]) hx hb d_Mo_step_38 hl (k := 1) rfl (by rw [en46]; rfl) (by decide) rfl (fun ls hl => ?_)
    refine lv_goto (tgt := 20) hx hb d_Mo_step_41 (by decide) ?_
    exact hi20 (n46, q45) h H locs ls hw (lv_sub hl [1, 0] rfl)
theorem w_Mo_step_20 {p : Program} {l : Launch} {e : Env} {s : State} {m : MethodId} {args : Array Value} {below : List Frame} {meth : Method} {c : Code} {D : va_G} {A : Nat → Prop} {ad : Nat → Nat} {ca : Nat → ClassId} (o : (Int32 × z_Sg)) (C0 : z_cx z_RMo b_Mo_step 2 (some .int) D (z_Mt ca) A p s m args meth c) (q : z_Sg) (x1 : Int32) (h : k_Mo_step_20 x1 q = some o) : ∀ (H : Heap) (locs : List Loc) (ls : Array Slot), z_wd D (z_M ad ca q) A s H locs → lv_has ls 2 [(0, .ref (ad 0)), (1, .int x1)] → W p l e (z_rm 11 266) s m args below meth c H locs 0 0 (z_qi below D (z_Mt ca) (z_M ad ca o.2) A s args o.1) (F0 m 20 ls []) := by
  have key : ∀ (n : Nat) (a : Int32 × z_Sg), z_lo (fun ih20 a => kb_Mo_step_20 ih20 a.1 a.2) n a = some o → ∀ (H : Heap) (locs : List Loc) (ls : Array Slot), z_wd D (z_M ad ca a.2) A s H locs → lv_has ls 2 [(0, .ref (ad 0)), (1, .int a.1)] → W p l e (z_rm 11 266) s m args below meth c H locs 0 0 (z_qi below D (z_Mt ca) (z_M ad ca o.2) A s args o.1) (F0 m 20 ls []) := by
    intro n
    induction n with
    | zero => intro a h; cases h
    | succ n ih => exact fun a h => wb_Mo_step_20 o C0 a.2 (z_lo (fun ih20 a => kb_Mo_step_20 ih20 a.1 a.2) n) ih a.1 h
  exact key 2000 (x1, q) h
set_option maxHeartbeats 4000000 in
set_option maxRecDepth 100000 in
theorem c_Mo_step {l : Launch} {D : va_G} {ad : Nat → Nat} {ca : Nat → ClassId} (q : z_Sg) (o : (Int32 × z_Sg)) (h : f_Mo_step q = some o) : z_ci l y_Mo_step b_Mo_step 2 (some .int) 11 266 D (z_Mt ca) (z_M ad ca q) (z_M ad ca o.2) [.ref (ad 0)] o.1 := by
  refine z_ci_of (own := z_RMo) (by decide) rfl ?_
  intro p e s m below meth c A C0 hw
  obtain ⟨hx, hb, hr, hlk, hml, hown, hts, hK, hA⟩ := id C0
  generalize hH : s.heap = H at hw ⊢
  generalize hlo : ([] : List Loc) = locs at hw ⊢
  refine z_entry (lv := [(0, .ref (ad 0))]) (Nat.le_of_ble_eq_true rfl) rfl (fun ls hl => ?_)
  unfold f_Mo_step at h
  refine lv_aload_n hx hb d_Mo_step_0 rfl (lv_at hl 0 rfl) ?_
  refine lv_iconst (v := (-1 : Int32)) hx hb d_Mo_step_1 (by decide) ?_
  refine pfM_0_refused C0 hw fl_Mo_28 d_Mo_step_2 (fun H locs hw => ?_)
  obtain ⟨q1, eq1, h⟩ := ok_n h
  rw [← eq1] at hw
  refine lv_aload_n hx hb d_Mo_step_5 rfl (lv_at hl 0 rfl) ?_
  refine lv_iconst (v := (0 : Int32)) hx hb d_Mo_step_6 (by decide) ?_
  refine pfM_0_waits C0 hw fl_Mo_103 d_Mo_step_7 (fun H locs hw => ?_)
  obtain ⟨q2, eq2, h⟩ := ok_n h
  rw [← eq2] at hw
  refine lv_aload_n hx hb d_Mo_step_10 rfl (lv_at hl 0 rfl) ?_
  refine lv_aload_n hx hb d_Mo_step_11 rfl (lv_at hl 0 rfl) ?_
  refine gfM_0_user C0 hw fl_Mo_48 d_Mo_step_12 ?_
  obtain ⟨b3, h⟩ := ok_G h
  refine pfM_0_oldUser C0 hw b3 fl_Mo_229 d_Mo_step_15 (fun H locs hw => ?_)
  obtain ⟨q4, eq4, h⟩ := ok_n h
  rw [← eq4] at hw
  refine lv_iconst (v := (0 : Int32)) hx hb d_Mo_step_18 (by decide) ?_
  refine lv_istore_n (lv' := [(1, .int (0 : Int32)), (0, .ref (ad 0))]) hx hb d_Mo_step_19 rfl hl (by decide) rfl (fun ls hl => ?_)
  exact w_Mo_step_20 o C0 q4 (0 : Int32) h H locs ls hw (lv_sub hl [1, 0] rfl)
def k_Mo_run_11 (q : z_Sg) : Option (Int32 × z_Sg) :=
  some ((0 : Int32), q)
def kb_Mo_run_15 (ih15 : Int32 × Int32 × z_Sg → Option (Int32 × z_Sg)) (x1 : Int32) (x2 : Int32) (q : z_Sg) : Option (Int32 × z_Sg) :=
  if x1 ≤ x2 then (some (x2, q)) else ((f_Mo_step q).bind (fun r4 => if r4.1 = (-1 : Int32) then (z_nm (x2 + (1 : Int32)) (fun n6 => ih15 (x1, n6, r4.2))) else (some (x2, r4.2))))
def k_Mo_run_15 (x1 : Int32) (x2 : Int32) (q : z_Sg) : Option (Int32 × z_Sg) := z_lo (fun ih15 a => kb_Mo_run_15 ih15 a.1 a.2.1 a.2.2) 2000 (x1, x2, q)
def f_Mo_run (x1 : Int32) (q : z_Sg) : Option (Int32 × z_Sg) :=
  if x1 < 0 then (k_Mo_run_11 q) else (if x1 ≤ (1000 : Int32) then (k_Mo_run_15 x1 (0 : Int32) q) else (k_Mo_run_11 q))
set_option maxHeartbeats 4000000 in
set_option maxRecDepth 100000 in
theorem w_Mo_run_11 {p : Program} {l : Launch} {e : Env} {s : State} {m : MethodId} {args : Array Value} {below : List Frame} {meth : Method} {c : Code} {D : va_G} {A : Nat → Prop} {ad : Nat → Nat} {ca : Nat → ClassId} (o : (Int32 × z_Sg)) (C0 : z_cx z_RMo b_Mo_run 3 (some .int) D (z_Mt ca) A p s m args meth c) (q : z_Sg) (h : k_Mo_run_11 q = some o) : ∀ (H : Heap) (locs : List Loc) (ls : Array Slot), z_wd D (z_M ad ca q) A s H locs → lv_has ls 3 [] → W p l e (z_rm 12 287) s m args below meth c H locs 0 0 (z_qi below D (z_Mt ca) (z_M ad ca o.2) A s args o.1) (F0 m 11 ls []) := by
  obtain ⟨hx, hb, hr, hlk, hml, hown, hts, hK, hA⟩ := id C0
  intro H locs ls hw hl
  refine lv_iconst (v := (0 : Int32)) hx hb d_Mo_run_11 (by decide) ?_
  have ho := Option.some.inj h
  subst ho
  exact z_rti C0 hw d_Mo_run_12
set_option maxHeartbeats 4000000 in
set_option maxRecDepth 100000 in
theorem wb_Mo_run_15 {p : Program} {l : Launch} {e : Env} {s : State} {m : MethodId} {args : Array Value} {below : List Frame} {meth : Method} {c : Code} {D : va_G} {A : Nat → Prop} {ad : Nat → Nat} {ca : Nat → ClassId} (o : (Int32 × z_Sg)) (C0 : z_cx z_RMo b_Mo_run 3 (some .int) D (z_Mt ca) A p s m args meth c) (q : z_Sg) (ih15 : Int32 × Int32 × z_Sg → Option (Int32 × z_Sg)) (hi15 : ∀ a : Int32 × Int32 × z_Sg, ih15 a = some o → ∀ (H : Heap) (locs : List Loc) (ls : Array Slot), z_wd D (z_M ad ca a.2.2) A s H locs → lv_has ls 3 [(0, .ref (ad 0)), (1, .int a.1), (2, .int a.2.1)] → W p l e (z_rm 12 287) s m args below meth c H locs 0 0 (z_qi below D (z_Mt ca) (z_M ad ca o.2) A s args o.1) (F0 m 15 ls [])) (x1 : Int32) (x2 : Int32) (h : kb_Mo_run_15 ih15 x1 x2 q = some o) : ∀ (H : Heap) (locs : List Loc) (ls : Array Slot), z_wd D (z_M ad ca q) A s H locs → lv_has ls 3 [(0, .ref (ad 0)), (1, .int x1), (2, .int x2)] → W p l e (z_rm 12 287) s m args below meth c H locs 0 0 (z_qi below D (z_Mt ca) (z_M ad ca o.2) A s args o.1) (F0 m 15 ls []) := by
  obtain ⟨hx, hb, hr, hlk, hml, hown, hts, hK, hA⟩ := id C0
  intro H locs ls hw hl
  refine lv_iload_n hx hb d_Mo_run_15 rfl (lv_at hl 2 rfl) ?_
  refine lv_iload_n hx hb d_Mo_run_16 rfl (lv_at hl 1 rfl) ?_
  refine lv_icmp_ge (tgt := 36) hx hb d_Mo_run_17 (by decide) (fun c3 => ?_) (fun c3 => ?_)
  · have h := ok_t h c3
    refine lv_iload_n hx hb d_Mo_run_36 rfl (lv_at hl 2 rfl) ?_
    have ho := Option.some.inj h
    subst ho
    exact z_rti C0 hw d_Mo_run_37
  · have h := ok_f h c3
    refine lv_aload_n hx hb d_Mo_run_20 rfl (lv_at hl 0 rfl) ?_
    obtain ⟨r4, er4, h⟩ := ok_b h
    refine z_vi (rest := []) C0 hw (c_Mo_step q r4 er4) mw_Mo_step ml_Mo_466 0 rfl ⟨Nat.le_of_ble_eq_true rfl, Nat.le_of_ble_eq_true rfl⟩ ⟨Nat.le_refl 0, Nat.le_refl 0⟩ rfl hl.1 rfl (Nat.le_of_ble_eq_true rfl) d_Mo_run_21 (fun H locs hw => ?_)
    refine lv_iconst (v := (-1 : Int32)) hx hb d_Mo_run_24 (by decide) ?_
    refine lv_icmp_eq (tgt := 30) hx hb d_Mo_run_25 (by decide) (fun c5 => ?_) (fun c5 => ?_)
    · have h := ok_t h c5
      obtain ⟨n6, en6, h⟩ := ok_n h
      refine lv_iinc (v := n6) (lv' := [(2, .int n6), (0, .ref (ad 0)), (1, .int x1)]) hx hb d_Mo_run_30 hl (k := 2) rfl (by rw [en6]; rfl) (by decide) rfl (fun ls hl => ?_)
      refine lv_goto (tgt := 15) hx hb d_Mo_run_33 (by decide) ?_
      exact hi15 (x1, n6, r4.2) h H locs ls hw (lv_sub hl [1, 2, 0] rfl)
    · have h := ok_f h c5
      refine lv_iload_n hx hb d_Mo_run_28 rfl (lv_at hl 2 rfl) ?_
      have ho := Option.some.inj h
      subst ho
      exact z_rti C0 hw d_Mo_run_29
theorem w_Mo_run_15 {p : Program} {l : Launch} {e : Env} {s : State} {m : MethodId} {args : Array Value} {below : List Frame} {meth : Method} {c : Code} {D : va_G} {A : Nat → Prop} {ad : Nat → Nat} {ca : Nat → ClassId} (o : (Int32 × z_Sg)) (C0 : z_cx z_RMo b_Mo_run 3 (some .int) D (z_Mt ca) A p s m args meth c) (q : z_Sg) (x1 : Int32) (x2 : Int32) (h : k_Mo_run_15 x1 x2 q = some o) : ∀ (H : Heap) (locs : List Loc) (ls : Array Slot), z_wd D (z_M ad ca q) A s H locs → lv_has ls 3 [(0, .ref (ad 0)), (1, .int x1), (2, .int x2)] → W p l e (z_rm 12 287) s m args below meth c H locs 0 0 (z_qi below D (z_Mt ca) (z_M ad ca o.2) A s args o.1) (F0 m 15 ls []) := by
  have key : ∀ (n : Nat) (a : Int32 × Int32 × z_Sg), z_lo (fun ih15 a => kb_Mo_run_15 ih15 a.1 a.2.1 a.2.2) n a = some o → ∀ (H : Heap) (locs : List Loc) (ls : Array Slot), z_wd D (z_M ad ca a.2.2) A s H locs → lv_has ls 3 [(0, .ref (ad 0)), (1, .int a.1), (2, .int a.2.1)] → W p l e (z_rm 12 287) s m args below meth c H locs 0 0 (z_qi below D (z_Mt ca) (z_M ad ca o.2) A s args o.1) (F0 m 15 ls []) := by
    intro n
    induction n with
    | zero => intro a h; cases h
    | succ n ih => exact fun a h => wb_Mo_run_15 o C0 a.2.2 (z_lo (fun ih15 a => kb_Mo_run_15 ih15 a.1 a.2.1 a.2.2) n) ih a.1 a.2.1 h
  exact key 2000 (x1, x2, q) h
set_option maxHeartbeats 4000000 in
set_option maxRecDepth 100000 in
theorem c_Mo_run {l : Launch} {D : va_G} {ad : Nat → Nat} {ca : Nat → ClassId} (x1 : Int32) (q : z_Sg) (o : (Int32 × z_Sg)) (h : f_Mo_run x1 q = some o) : z_ci l y_Mo_run b_Mo_run 3 (some .int) 12 287 D (z_Mt ca) (z_M ad ca q) (z_M ad ca o.2) [.ref (ad 0), .int x1] o.1 := by
  refine z_ci_of (own := z_RMo) (by decide) rfl ?_
  intro p e s m below meth c A C0 hw
  obtain ⟨hx, hb, hr, hlk, hml, hown, hts, hK, hA⟩ := id C0
  generalize hH : s.heap = H at hw ⊢
  generalize hlo : ([] : List Loc) = locs at hw ⊢
  refine z_entry (lv := [(0, .ref (ad 0)), (1, .int x1)]) (Nat.le_of_ble_eq_true rfl) rfl (fun ls hl => ?_)
  unfold f_Mo_run at h
  refine lv_iload_n hx hb d_Mo_run_0 rfl (lv_at hl 1 rfl) ?_
  refine lv_if_lt (tgt := 11) hx hb d_Mo_run_1 (by decide) (fun c1 => ?_) (fun c1 => ?_)
  · have h := ok_t h c1
    exact w_Mo_run_11 o C0 q h H locs ls hw (lv_sub hl [] rfl)
  · have h := ok_f h c1
    refine lv_iload_n hx hb d_Mo_run_4 rfl (lv_at hl 1 rfl) ?_
    refine lv_sipush (v := (1000 : Int32)) hx hb d_Mo_run_5 (by decide) ?_
    refine lv_icmp_le (tgt := 13) hx hb d_Mo_run_8 (by decide) (fun c2 => ?_) (fun c2 => ?_)
    · have h := ok_t h c2
      refine lv_iconst (v := (0 : Int32)) hx hb d_Mo_run_13 (by decide) ?_
      refine lv_istore_n (lv' := [(2, .int (0 : Int32)), (0, .ref (ad 0)), (1, .int x1)]) hx hb d_Mo_run_14 rfl hl (by decide) rfl (fun ls hl => ?_)
      exact w_Mo_run_15 o C0 q x1 (0 : Int32) h H locs ls hw (lv_sub hl [1, 2, 0] rfl)
    · have h := ok_f h c2
      exact w_Mo_run_11 o C0 q h H locs ls hw (lv_sub hl [] rfl)
def k_Mo_look_67 (t0 : Int64) (q : z_Sg) : Option (Int64 × z_Sg) :=
  some (t0, q)
def k_Mo_look_41 (t1 : Int64) (t2 : Int32) (q : z_Sg) : Option (Int64 × z_Sg) :=
  (f_Mo_find t1 t2 q).bind (fun r6 => if (0 : Int64) ≤ r6.1 then (k_Mo_look_67 r6.1 r6.2) else (k_Mo_look_67 ((-2 : Int64) - ((z_gI r6.2 1).toInt64)) r6.2))
def f_Mo_look (x1 : Int32) (x2 : Int32) (x3 : Int32) (q : z_Sg) : Option (Int64 × z_Sg) :=
  (f_Mo_join x1 x2 q).bind (fun r1 => (f_Mo_isWrong r1 q).bind (fun r2 => if r2 = 0 then (if x3 = (1 : Int32) then (k_Mo_look_41 r1 (1 : Int32) q) else (if x3 = (2 : Int32) then (k_Mo_look_41 r1 (2 : Int32) q) else (k_Mo_look_41 r1 (0 : Int32) q))) else (some ((-1 : Int64), q))))
set_option maxHeartbeats 4000000 in
set_option maxRecDepth 100000 in
theorem w_Mo_look_67 {p : Program} {l : Launch} {e : Env} {s : State} {m : MethodId} {args : Array Value} {below : List Frame} {meth : Method} {c : Code} {D : va_G} {A : Nat → Prop} {ad : Nat → Nat} {ca : Nat → ClassId} (o : (Int64 × z_Sg)) (C0 : z_cx z_RMo b_Mo_look 8 (some .long) D (z_Mt ca) A p s m args meth c) (q : z_Sg) (t0 : Int64) (h : k_Mo_look_67 t0 q = some o) : ∀ (H : Heap) (locs : List Loc) (ls : Array Slot), z_wd D (z_M ad ca q) A s H locs → lv_has ls 8 [] → W p l e (z_rm 3 81) s m args below meth c H locs 0 0 (z_ql below D (z_Mt ca) (z_M ad ca o.2) A s args o.1) (F0 m 67 ls [.long t0]) := by
  obtain ⟨hx, hb, hr, hlk, hml, hown, hts, hK, hA⟩ := id C0
  intro H locs ls hw hl
  have ho := Option.some.inj h
  subst ho
  exact z_rtl C0 hw d_Mo_look_67
set_option maxHeartbeats 4000000 in
set_option maxRecDepth 100000 in
theorem w_Mo_look_41 {p : Program} {l : Launch} {e : Env} {s : State} {m : MethodId} {args : Array Value} {below : List Frame} {meth : Method} {c : Code} {D : va_G} {A : Nat → Prop} {ad : Nat → Nat} {ca : Nat → ClassId} (o : (Int64 × z_Sg)) (C0 : z_cx z_RMo b_Mo_look 8 (some .long) D (z_Mt ca) A p s m args meth c) (q : z_Sg) (t1 : Int64) (t2 : Int32) (h : k_Mo_look_41 t1 t2 q = some o) : ∀ (H : Heap) (locs : List Loc) (ls : Array Slot), z_wd D (z_M ad ca q) A s H locs → lv_has ls 8 [(0, .ref (ad 0))] → W p l e (z_rm 3 81) s m args below meth c H locs 0 0 (z_ql below D (z_Mt ca) (z_M ad ca o.2) A s args o.1) (F0 m 41 ls [.int t2, .long t1, .ref (ad 0)]) := by
  obtain ⟨hx, hb, hr, hlk, hml, hown, hts, hK, hA⟩ := id C0
  intro H locs ls hw hl
  obtain ⟨r6, er6, h⟩ := ok_b h
  refine z_vl (rest := []) C0 hw (c_Mo_find t1 t2 q r6 er6) mw_Mo_find ml_Mo_85 0 rfl ⟨Nat.le_of_ble_eq_true rfl, Nat.le_of_ble_eq_true rfl⟩ ⟨Nat.le_refl 0, Nat.le_refl 0⟩ rfl hl.1 rfl (Nat.le_of_ble_eq_true rfl) d_Mo_look_41 (fun H locs hw => ?_)
  refine lv_lstore (lv' := [(6, .long r6.1), (0, .ref (ad 0))]) hx hb d_Mo_look_44 hl (by decide) rfl (fun ls hl => ?_)
  refine lv_lload hx hb d_Mo_look_46 (lv_at hl 0 rfl) ?_
  refine lv_lconst (v := (0 : Int64)) hx hb d_Mo_look_48 (by decide) ?_
  refine W.lcmp hx hb d_Mo_look_49 ?_
  refine lv_if_ge (tgt := 65) hx hb d_Mo_look_50 (by decide) (fun c7 => ?_) (fun c7 => ?_)
  · have h := ok_t h ((lg_cmp_ge _ _).mp c7)
    refine lv_lload hx hb d_Mo_look_65 (lv_at hl 0 rfl) ?_
    exact w_Mo_look_67 o C0 r6.2 r6.1 h H locs ls hw (lv_sub hl [] rfl)
  · have h := ok_f h (fun z => c7 ((lg_cmp_ge _ _).mpr z))
    refine lv_ldc2 (own := z_RMo) hx hb hown (hts _ kl_Mo_469) d_Mo_look_53 ?_
    refine lv_aload_n hx hb d_Mo_look_56 rfl (lv_at hl 1 rfl) ?_
    refine gfM_0_lookCode C0 hw fl_Mo_68 d_Mo_look_57 ?_
    refine lv_i2l hx hb d_Mo_look_60 rfl ?_
    refine lv_lsub hx hb d_Mo_look_61 ?_
    refine lv_goto (tgt := 67) hx hb d_Mo_look_62 (by decide) ?_
    exact w_Mo_look_67 o C0 r6.2 ((-2 : Int64) - ((z_gI r6.2 1).toInt64)) h H locs ls hw (lv_sub hl [] rfl)
set_option maxHeartbeats 4000000 in
set_option maxRecDepth 100000 in
theorem c_Mo_look {l : Launch} {D : va_G} {ad : Nat → Nat} {ca : Nat → ClassId} (x1 : Int32) (x2 : Int32) (x3 : Int32) (q : z_Sg) (o : (Int64 × z_Sg)) (h : f_Mo_look x1 x2 x3 q = some o) : z_cl l y_Mo_look b_Mo_look 8 (some .long) 3 81 D (z_Mt ca) (z_M ad ca q) (z_M ad ca o.2) [.ref (ad 0), .int x1, .int x2, .int x3] o.1 := by
  refine z_cl_of (own := z_RMo) (by decide) rfl ?_
  intro p e s m below meth c A C0 hw
  obtain ⟨hx, hb, hr, hlk, hml, hown, hts, hK, hA⟩ := id C0
  generalize hH : s.heap = H at hw ⊢
  generalize hlo : ([] : List Loc) = locs at hw ⊢
  refine z_entry (lv := [(0, .ref (ad 0)), (1, .int x1), (2, .int x2), (3, .int x3)]) (Nat.le_of_ble_eq_true rfl) rfl (fun ls hl => ?_)
  unfold f_Mo_look at h
  refine lv_iload_n hx hb d_Mo_look_0 rfl (lv_at hl 1 rfl) ?_
  refine lv_iload_n hx hb d_Mo_look_1 rfl (lv_at hl 2 rfl) ?_
  obtain ⟨r1, er1, h⟩ := ok_b h
  refine z_sl (rest := []) C0 hw (c_Mo_join x1 x2 q r1 er1) mw_Mo_join ml_Mo_461 ⟨Nat.le_of_ble_eq_true rfl, Nat.le_of_ble_eq_true rfl⟩ ⟨Nat.le_refl 0, Nat.le_refl 0⟩ rfl hl.1 rfl (Nat.le_of_ble_eq_true rfl) d_Mo_look_2 (fun H locs hw => ?_)
  refine lv_lstore (lv' := [(4, .long r1), (0, .ref (ad 0)), (1, .int x1), (2, .int x2), (3, .int x3)]) hx hb d_Mo_look_5 hl (by decide) rfl (fun ls hl => ?_)
  refine lv_lload hx hb d_Mo_look_7 (lv_at hl 0 rfl) ?_
  obtain ⟨r2, er2, h⟩ := ok_b h
  refine z_si (rest := []) C0 hw (c_Mo_isWrong r1 q r2 er2) mw_Mo_isWrong ml_Mo_77 ⟨Nat.le_of_ble_eq_true rfl, Nat.le_of_ble_eq_true rfl⟩ ⟨Nat.le_refl 0, Nat.le_refl 0⟩ rfl hl.1 rfl (Nat.le_of_ble_eq_true rfl) d_Mo_look_9 (fun H locs hw => ?_)
  refine lv_if_eq (tgt := 19) hx hb d_Mo_look_12 (by decide) (fun c3 => ?_) (fun c3 => ?_)
  · have h := ok_t h c3
    refine lv_aload_n hx hb d_Mo_look_19 rfl (lv_at hl 1 rfl) ?_
    refine lv_lload hx hb d_Mo_look_20 (lv_at hl 0 rfl) ?_
    refine lv_iload_n hx hb d_Mo_look_22 rfl (lv_at hl 4 rfl) ?_
    refine lv_iconst (v := (1 : Int32)) hx hb d_Mo_look_23 (by decide) ?_
    refine lv_icmp_ne (tgt := 31) hx hb d_Mo_look_24 (by decide) (fun c4 => ?_) (fun c4 => ?_)
    · have h := ok_f h c4
      refine lv_iload_n hx hb d_Mo_look_31 rfl (lv_at hl 4 rfl) ?_
      refine lv_iconst (v := (2 : Int32)) hx hb d_Mo_look_32 (by decide) ?_
      refine lv_icmp_ne (tgt := 40) hx hb d_Mo_look_33 (by decide) (fun c5 => ?_) (fun c5 => ?_)
      · have h := ok_f h c5
        refine lv_iconst (v := (0 : Int32)) hx hb d_Mo_look_40 (by decide) ?_
        exact w_Mo_look_41 o C0 q r1 (0 : Int32) h H locs ls hw (lv_sub hl [1] rfl)
      · have h := ok_t h c5
        refine lv_iconst (v := (2 : Int32)) hx hb d_Mo_look_36 (by decide) ?_
        refine lv_goto (tgt := 41) hx hb d_Mo_look_37 (by decide) ?_
        exact w_Mo_look_41 o C0 q r1 (2 : Int32) h H locs ls hw (lv_sub hl [1] rfl)
    · have h := ok_t h c4
      refine lv_iconst (v := (1 : Int32)) hx hb d_Mo_look_27 (by decide) ?_
      refine lv_goto (tgt := 41) hx hb d_Mo_look_28 (by decide) ?_
      exact w_Mo_look_41 o C0 q r1 (1 : Int32) h H locs ls hw (lv_sub hl [1] rfl)
  · have h := ok_f h c3
    refine lv_ldc2 (own := z_RMo) hx hb hown (hts _ kl_Mo_71) d_Mo_look_15 ?_
    have ho := Option.some.inj h
    subst ho
    exact z_rtl C0 hw d_Mo_look_18
