def k_Mo_store_17 (q : z_Sg) : Option (Int32 × z_Sg) :=
  some ((0 : Int32), q)
def k_Mo_store_48 (ih22 : Int32 × Int32 × Int32 × Int32 × z_Sg → Option (Int32 × z_Sg)) (x1 : Int32) (x2 : Int32) (x3 : Int32) (x4 : Int32) (t1 : Int32) (t2 : Int32) (q : z_Sg) : Option (Int32 × z_Sg) :=
  if z_bad t1 32768 then none else (z_nm (z_sN q 0 t1.toNatClampNeg (vp_nar .byte ((t2 >>> (((8 : Int32) * (x4 - x4 / (4 : Int32) * (4 : Int32))) &&& 31)).toInt8.toInt32))) (fun q6 => z_nm (x4 + (1 : Int32)) (fun n7 => ih22 (x1, x2, x3, n7, q6))))
def kb_Mo_store_22 (ih22 : Int32 × Int32 × Int32 × Int32 × z_Sg → Option (Int32 × z_Sg)) (x1 : Int32) (x2 : Int32) (x3 : Int32) (x4 : Int32) (q : z_Sg) : Option (Int32 × z_Sg) :=
  if (8 : Int32) ≤ x4 then (some ((1 : Int32), q)) else (if (4 : Int32) ≤ x4 then (k_Mo_store_48 ih22 x1 x2 x3 x4 (x1 + x4) x3 q) else (k_Mo_store_48 ih22 x1 x2 x3 x4 (x1 + x4) x2 q))
def k_Mo_store_22 (x1 : Int32) (x2 : Int32) (x3 : Int32) (x4 : Int32) (q : z_Sg) : Option (Int32 × z_Sg) := z_lo (fun ih22 a => kb_Mo_store_22 ih22 a.1 a.2.1 a.2.2.1 a.2.2.2.1 a.2.2.2.2) 2000 (x1, x2, x3, x4, q)
def f_Mo_store (x1 : Int32) (x2 : Int32) (x3 : Int32) (q : z_Sg) : Option (Int32 × z_Sg) :=
  if x1 < 0 then (k_Mo_store_17 q) else (if ((x1.toInt64) + (8 : Int64)) ≤ (32768 : Int64) then (k_Mo_store_22 x1 x2 x3 (0 : Int32) q) else (k_Mo_store_17 q))
set_option maxHeartbeats 4000000 in
set_option maxRecDepth 100000 in
theorem w_Mo_store_17 {p : Program} {l : Launch} {e : Env} {s : State} {m : MethodId} {args : Array Value} {below : List Frame} {meth : Method} {c : Code} {D : va_G} {A : Nat → Prop} {ad : Nat → Nat} {ca : Nat → ClassId} (o : (Int32 × z_Sg)) (C0 : z_cx z_RMo b_Mo_store 5 (some .boolean) D (z_Mt ca) A p s m args meth c) (q : z_Sg) (h : k_Mo_store_17 q = some o) : ∀ (H : Heap) (locs : List Loc) (ls : Array Slot), z_wd D (z_M ad ca q) A s H locs → lv_has ls 5 [] → W p l e (z_rm 0 0) s m args below meth c H locs 0 0 (z_qi below D (z_Mt ca) (z_M ad ca o.2) A s args o.1) (F0 m 17 ls []) := by
  obtain ⟨hx, hb, hr, hlk, hml, hown, hts, hK, hA⟩ := id C0
  intro H locs ls hw hl
  refine lv_iconst (v := (0 : Int32)) hx hb d_Mo_store_17 (by decide) ?_
  have ho := Option.some.inj h
  subst ho
  exact z_rtz C0 hw (z_bo_n (Or.inl rfl)) d_Mo_store_18
set_option maxHeartbeats 4000000 in
set_option maxRecDepth 100000 in
theorem w_Mo_store_48 {p : Program} {l : Launch} {e : Env} {s : State} {m : MethodId} {args : Array Value} {below : List Frame} {meth : Method} {c : Code} {D : va_G} {A : Nat → Prop} {ad : Nat → Nat} {ca : Nat → ClassId} (o : (Int32 × z_Sg)) (C0 : z_cx z_RMo b_Mo_store 5 (some .boolean) D (z_Mt ca) A p s m args meth c) (q : z_Sg) (ih22 : Int32 × Int32 × Int32 × Int32 × z_Sg → Option (Int32 × z_Sg)) (hi22 : ∀ a : Int32 × Int32 × Int32 × Int32 × z_Sg, ih22 a = some o → ∀ (H : Heap) (locs : List Loc) (ls : Array Slot), z_wd D (z_M ad ca a.2.2.2.2) A s H locs → lv_has ls 5 [(0, .ref (ad 0)), (1, .int a.1), (2, .int a.2.1), (3, .int a.2.2.1), (4, .int a.2.2.2.1)] → W p l e (z_rm 0 0) s m args below meth c H locs 0 0 (z_qi below D (z_Mt ca) (z_M ad ca o.2) A s args o.1) (F0 m 22 ls [])) (x1 : Int32) (x2 : Int32) (x3 : Int32) (x4 : Int32) (t1 : Int32) (t2 : Int32) (h : k_Mo_store_48 ih22 x1 x2 x3 x4 t1 t2 q = some o) : ∀ (H : Heap) (locs : List Loc) (ls : Array Slot), z_wd D (z_M ad ca q) A s H locs → lv_has ls 5 [(0, .ref (ad 0)), (1, .int x1), (2, .int x2), (3, .int x3), (4, .int x4)] → W p l e (z_rm 0 0) s m args below meth c H locs 0 0 (z_qi below D (z_Mt ca) (z_M ad ca o.2) A s args o.1) (F0 m 48 ls [.int t2, .int t1, .ref (ad 1)]) := by
  obtain ⟨hx, hb, hr, hlk, hml, hown, hts, hK, hA⟩ := id C0
  intro H locs ls hw hl
  refine lv_bipush (v := (8 : Int32)) hx hb d_Mo_store_48 (by decide) ?_
  refine lv_iload hx hb d_Mo_store_50 (lv_at hl 4 rfl) ?_
  refine lv_iconst (v := (4 : Int32)) hx hb d_Mo_store_52 (by decide) ?_
  refine lv_irem hx hb d_Mo_store_53 (by decide) ?_
  refine lv_imul hx hb d_Mo_store_54 ?_
  refine lv_ishr hx hb d_Mo_store_55 ?_
  refine lv_i2b hx hb d_Mo_store_56 rfl ?_
  obtain ⟨b5, h⟩ := ok_g h
  refine asM_1 C0 hw b5 d_Mo_store_57 (fun H locs hw => ?_)
  obtain ⟨q6, eq6, h⟩ := ok_n h
  rw [← eq6] at hw
  obtain ⟨n7, en7, h⟩ := ok_n h
  refine lv_iinc (v := n7) (lv' := [(4, .int n7), (0, .ref (ad 0)), (1, .int x1), (2, .int x2), (3, .int x3)]) hx hb d_Mo_store_58 hl (k := 4) rfl (by rw [en7]; rfl) (by decide) rfl (fun ls hl => ?_)
  refine lv_goto (tgt := 22) hx hb d_Mo_store_61 (by decide) ?_
  exact hi22 (x1, x2, x3, n7, q6) h H locs ls hw (lv_sub hl [1, 2, 3, 4, 0] rfl)
set_option maxHeartbeats 4000000 in
set_option maxRecDepth 100000 in
theorem wb_Mo_store_22 {p : Program} {l : Launch} {e : Env} {s : State} {m : MethodId} {args : Array Value} {below : List Frame} {meth : Method} {c : Code} {D : va_G} {A : Nat → Prop} {ad : Nat → Nat} {ca : Nat → ClassId} (o : (Int32 × z_Sg)) (C0 : z_cx z_RMo b_Mo_store 5 (some .boolean) D (z_Mt ca) A p s m args meth c) (q : z_Sg) (ih22 : Int32 × Int32 × Int32 × Int32 × z_Sg → Option (Int32 × z_Sg)) (hi22 : ∀ a : Int32 × Int32 × Int32 × Int32 × z_Sg, ih22 a = some o → ∀ (H : Heap) (locs : List Loc) (ls : Array Slot), z_wd D (z_M ad ca a.2.2.2.2) A s H locs → lv_has ls 5 [(0, .ref (ad 0)), (1, .int a.1), (2, .int a.2.1), (3, .int a.2.2.1), (4, .int a.2.2.2.1)] → W p l e (z_rm 0 0) s m args below meth c H locs 0 0 (z_qi below D (z_Mt ca) (z_M ad ca o.2) A s args o.1) (F0 m 22 ls [])) (x1 : Int32) (x2 : Int32) (x3 : Int32) (x4 : Int32) (h : kb_Mo_store_22 ih22 x1 x2 x3 x4 q = some o) : ∀ (H : Heap) (locs : List Loc) (ls : Array Slot), z_wd D (z_M ad ca q) A s H locs → lv_has ls 5 [(0, .ref (ad 0)), (1, .int x1), (2, .int x2), (3, .int x3), (4, .int x4)] → W p l e (z_rm 0 0) s m args below meth c H locs 0 0 (z_qi below D (z_Mt ca) (z_M ad ca o.2) A s args o.1) (F0 m 22 ls []) := by
  obtain ⟨hx, hb, hr, hlk, hml, hown, hts, hK, hA⟩ := id C0
  intro H locs ls hw hl
  refine lv_iload hx hb d_Mo_store_22 (lv_at hl 4 rfl) ?_
  refine lv_bipush (v := (8 : Int32)) hx hb d_Mo_store_24 (by decide) ?_
  refine lv_icmp_ge (tgt := 64) hx hb d_Mo_store_26 (by decide) (fun c3 => ?_) (fun c3 => ?_)
  · have h := ok_t h c3
    refine lv_iconst (v := (1 : Int32)) hx hb d_Mo_store_64 (by decide) ?_
    have ho := Option.some.inj h
    subst ho
    exact z_rtz C0 hw (z_bo_n (Or.inr rfl)) d_Mo_store_65
  · have h := ok_f h c3
    refine lv_aload_n hx hb d_Mo_store_29 rfl (lv_at hl 0 rfl) ?_
    refine gfM_0_memory C0 hw fl_Mo_8 d_Mo_store_30 ?_
    refine lv_iload_n hx hb d_Mo_store_33 rfl (lv_at hl 1 rfl) ?_
    refine lv_iload hx hb d_Mo_store_34 (lv_at hl 4 rfl) ?_
    refine lv_iadd hx hb d_Mo_store_36 ?_
    refine lv_iload hx hb d_Mo_store_37 (lv_at hl 4 rfl) ?_
    refine lv_iconst (v := (4 : Int32)) hx hb d_Mo_store_39 (by decide) ?_
    refine lv_icmp_ge (tgt := 47) hx hb d_Mo_store_40 (by decide) (fun c4 => ?_) (fun c4 => ?_)
    · have h := ok_t h c4
      refine lv_iload_n hx hb d_Mo_store_47 rfl (lv_at hl 3 rfl) ?_
      exact w_Mo_store_48 o C0 q ih22 hi22 x1 x2 x3 x4 (x1 + x4) x3 h H locs ls hw (lv_sub hl [0, 1, 2, 3, 4] rfl)
    · have h := ok_f h c4
      refine lv_iload_n hx hb d_Mo_store_43 rfl (lv_at hl 2 rfl) ?_
      refine lv_goto (tgt := 48) hx hb d_Mo_store_44 (by decide) ?_
      exact w_Mo_store_48 o C0 q ih22 hi22 x1 x2 x3 x4 (x1 + x4) x2 h H locs ls hw (lv_sub hl [0, 1, 2, 3, 4] rfl)
theorem w_Mo_store_22 {p : Program} {l : Launch} {e : Env} {s : State} {m : MethodId} {args : Array Value} {below : List Frame} {meth : Method} {c : Code} {D : va_G} {A : Nat → Prop} {ad : Nat → Nat} {ca : Nat → ClassId} (o : (Int32 × z_Sg)) (C0 : z_cx z_RMo b_Mo_store 5 (some .boolean) D (z_Mt ca) A p s m args meth c) (q : z_Sg) (x1 : Int32) (x2 : Int32) (x3 : Int32) (x4 : Int32) (h : k_Mo_store_22 x1 x2 x3 x4 q = some o) : ∀ (H : Heap) (locs : List Loc) (ls : Array Slot), z_wd D (z_M ad ca q) A s H locs → lv_has ls 5 [(0, .ref (ad 0)), (1, .int x1), (2, .int x2), (3, .int x3), (4, .int x4)] → W p l e (z_rm 0 0) s m args below meth c H locs 0 0 (z_qi below D (z_Mt ca) (z_M ad ca o.2) A s args o.1) (F0 m 22 ls []) := by
  have key : ∀ (n : Nat) (a : Int32 × Int32 × Int32 × Int32 × z_Sg), z_lo (fun ih22 a => kb_Mo_store_22 ih22 a.1 a.2.1 a.2.2.1 a.2.2.2.1 a.2.2.2.2) n a = some o → ∀ (H : Heap) (locs : List Loc) (ls : Array Slot), z_wd D (z_M ad ca a.2.2.2.2) A s H locs → lv_has ls 5 [(0, .ref (ad 0)), (1, .int a.1), (2, .int a.2.1), (3, .int a.2.2.1), (4, .int a.2.2.2.1)] → W p l e (z_rm 0 0) s m args below meth c H locs 0 0 (z_qi below D (z_Mt ca) (z_M ad ca o.2) A s args o.1) (F0 m 22 ls []) := by
    intro n
    induction n with
    | zero => intro a h; cases h
    | succ n ih => exact fun a h => wb_Mo_store_22 o C0 a.2.2.2.2 (z_lo (fun ih22 a => kb_Mo_store_22 ih22 a.1 a.2.1 a.2.2.1 a.2.2.2.1 a.2.2.2.2) n) ih a.1 a.2.1 a.2.2.1 a.2.2.2.1 h
  exact key 2000 (x1, x2, x3, x4, q) h
set_option maxHeartbeats 4000000 in
set_option maxRecDepth 100000 in
theorem c_Mo_store {l : Launch} {D : va_G} {ad : Nat → Nat} {ca : Nat → ClassId} (x1 : Int32) (x2 : Int32) (x3 : Int32) (q : z_Sg) (o : (Int32 × z_Sg)) (h : f_Mo_store x1 x2 x3 q = some o) : z_ci l y_Mo_store b_Mo_store 5 (some .boolean) 0 0 D (z_Mt ca) (z_M ad ca q) (z_M ad ca o.2) [.ref (ad 0), .int x1, .int x2, .int x3] o.1 := by
  refine z_ci_of (own := z_RMo) (by decide) rfl ?_
  intro p e s m below meth c A C0 hw
  obtain ⟨hx, hb, hr, hlk, hml, hown, hts, hK, hA⟩ := id C0
  generalize hH : s.heap = H at hw ⊢
  generalize hlo : ([] : List Loc) = locs at hw ⊢
  refine z_entry (lv := [(0, .ref (ad 0)), (1, .int x1), (2, .int x2), (3, .int x3)]) (Nat.le_of_ble_eq_true rfl) rfl (fun ls hl => ?_)
  unfold f_Mo_store at h
  refine lv_iload_n hx hb d_Mo_store_0 rfl (lv_at hl 1 rfl) ?_
  refine lv_if_lt (tgt := 17) hx hb d_Mo_store_1 (by decide) (fun c1 => ?_) (fun c1 => ?_)
  · have h := ok_t h c1
    exact w_Mo_store_17 o C0 q h H locs ls hw (lv_sub hl [] rfl)
  · have h := ok_f h c1
    refine lv_iload_n hx hb d_Mo_store_4 rfl (lv_at hl 1 rfl) ?_
    refine lv_i2l hx hb d_Mo_store_5 rfl ?_
    refine lv_ldc2 (own := z_RMo) hx hb hown (hts _ kl_Mo_60) d_Mo_store_6 ?_
    refine lv_ladd hx hb d_Mo_store_9 ?_
    refine lv_ldc2 (own := z_RMo) hx hb hown (hts _ kl_Mo_42) d_Mo_store_10 ?_
    refine W.lcmp hx hb d_Mo_store_13 ?_
    refine lv_if_le (tgt := 19) hx hb d_Mo_store_14 (by decide) (fun c2 => ?_) (fun c2 => ?_)
    · have h := ok_t h ((lg_cmp_le _ _).mp c2)
      refine lv_iconst (v := (0 : Int32)) hx hb d_Mo_store_19 (by decide) ?_
      refine lv_istore (lv' := [(4, .int (0 : Int32)), (0, .ref (ad 0)), (1, .int x1), (2, .int x2), (3, .int x3)]) hx hb d_Mo_store_20 hl (by decide) rfl (fun ls hl => ?_)
      exact w_Mo_store_22 o C0 q x1 x2 x3 (0 : Int32) h H locs ls hw (lv_sub hl [1, 2, 3, 4, 0] rfl)
    · have h := ok_f h (fun z => c2 ((lg_cmp_le _ _).mpr z))
      exact w_Mo_store_17 o C0 q h H locs ls hw (lv_sub hl [] rfl)
def k_Mo_byteAt_29 (t0 : Int32) (q : z_Sg) : Option Int32 :=
  some t0
def k_Mo_byteAt_14 (q : z_Sg) : Option Int32 :=
  k_Mo_byteAt_29 (0 : Int32) q
def f_Mo_byteAt (x1 : Int64) (q : z_Sg) : Option Int32 :=
  if x1 < (0 : Int64) then (k_Mo_byteAt_14 q) else (if x1 < (32768 : Int64) then (if z_bad (x1.toInt32) 32768 then none else (k_Mo_byteAt_29 ((z_gN q 0 (x1.toInt32).toNatClampNeg) &&& (255 : Int32)) q)) else (k_Mo_byteAt_14 q))
set_option maxHeartbeats 4000000 in
set_option maxRecDepth 100000 in
theorem w_Mo_byteAt_29 {p : Program} {l : Launch} {e : Env} {s : State} {m : MethodId} {args : Array Value} {below : List Frame} {meth : Method} {c : Code} {D : va_G} {A : Nat → Prop} {ad : Nat → Nat} {ca : Nat → ClassId} (o : Int32) (C0 : z_cx z_RMo b_Mo_byteAt 3 (some .int) D (z_Mt ca) A p s m args meth c) (q : z_Sg) (t0 : Int32) (h : k_Mo_byteAt_29 t0 q = some o) : ∀ (H : Heap) (locs : List Loc) (ls : Array Slot), z_wd D (z_M ad ca q) A s H locs → lv_has ls 3 [] → W p l e (z_rm 0 0) s m args below meth c H locs 0 0 (z_qi below D (z_Mt ca) (z_M ad ca q) A s args o) (F0 m 29 ls [.int t0]) := by
  obtain ⟨hx, hb, hr, hlk, hml, hown, hts, hK, hA⟩ := id C0
  intro H locs ls hw hl
  have ho := Option.some.inj h
  subst ho
  exact z_rti C0 hw d_Mo_byteAt_29
set_option maxHeartbeats 4000000 in
set_option maxRecDepth 100000 in
theorem w_Mo_byteAt_14 {p : Program} {l : Launch} {e : Env} {s : State} {m : MethodId} {args : Array Value} {below : List Frame} {meth : Method} {c : Code} {D : va_G} {A : Nat → Prop} {ad : Nat → Nat} {ca : Nat → ClassId} (o : Int32) (C0 : z_cx z_RMo b_Mo_byteAt 3 (some .int) D (z_Mt ca) A p s m args meth c) (q : z_Sg) (h : k_Mo_byteAt_14 q = some o) : ∀ (H : Heap) (locs : List Loc) (ls : Array Slot), z_wd D (z_M ad ca q) A s H locs → lv_has ls 3 [] → W p l e (z_rm 0 0) s m args below meth c H locs 0 0 (z_qi below D (z_Mt ca) (z_M ad ca q) A s args o) (F0 m 14 ls []) := by
  obtain ⟨hx, hb, hr, hlk, hml, hown, hts, hK, hA⟩ := id C0
  intro H locs ls hw hl
  refine lv_iconst (v := (0 : Int32)) hx hb d_Mo_byteAt_14 (by decide) ?_
  refine lv_goto (tgt := 29) hx hb d_Mo_byteAt_15 (by decide) ?_
  exact w_Mo_byteAt_29 o C0 q (0 : Int32) h H locs ls hw (lv_sub hl [] rfl)
set_option maxHeartbeats 4000000 in
set_option maxRecDepth 100000 in
theorem c_Mo_byteAt {l : Launch} {D : va_G} {ad : Nat → Nat} {ca : Nat → ClassId} (x1 : Int64) (q : z_Sg) (o : Int32) (h : f_Mo_byteAt x1 q = some o) : z_ci l y_Mo_byteAt b_Mo_byteAt 3 (some .int) 0 0 D (z_Mt ca) (z_M ad ca q) (z_M ad ca q) [.ref (ad 0), .long x1] o := by
  refine z_ci_of (own := z_RMo) (by decide) rfl ?_
  intro p e s m below meth c A C0 hw
  obtain ⟨hx, hb, hr, hlk, hml, hown, hts, hK, hA⟩ := id C0
  generalize hH : s.heap = H at hw ⊢
  generalize hlo : ([] : List Loc) = locs at hw ⊢
  refine z_entry (lv := [(0, .ref (ad 0)), (1, .long x1)]) (Nat.le_of_ble_eq_true rfl) rfl (fun ls hl => ?_)
  unfold f_Mo_byteAt at h
  refine lv_lload_n hx hb d_Mo_byteAt_0 rfl (lv_at hl 1 rfl) ?_
  refine lv_lconst (v := (0 : Int64)) hx hb d_Mo_byteAt_1 (by decide) ?_
  refine W.lcmp hx hb d_Mo_byteAt_2 ?_
  refine lv_if_lt (tgt := 14) hx hb d_Mo_byteAt_3 (by decide) (fun c1 => ?_) (fun c1 => ?_)
  · have h := ok_t h ((lg_cmp_lt _ _).mp c1)
    exact w_Mo_byteAt_14 o C0 q h H locs ls hw (lv_sub hl [] rfl)
  · have h := ok_f h (fun z => c1 ((lg_cmp_lt _ _).mpr z))
    refine lv_lload_n hx hb d_Mo_byteAt_6 rfl (lv_at hl 1 rfl) ?_
    refine lv_ldc2 (own := z_RMo) hx hb hown (hts _ kl_Mo_42) d_Mo_byteAt_7 ?_
    refine W.lcmp hx hb d_Mo_byteAt_10 ?_
    refine lv_if_lt (tgt := 18) hx hb d_Mo_byteAt_11 (by decide) (fun c2 => ?_) (fun c2 => ?_)
    · have h := ok_t h ((lg_cmp_lt _ _).mp c2)
      refine lv_aload_n hx hb d_Mo_byteAt_18 rfl (lv_at hl 0 rfl) ?_
      refine gfM_0_memory C0 hw fl_Mo_8 d_Mo_byteAt_19 ?_
      refine lv_lload_n hx hb d_Mo_byteAt_22 rfl (lv_at hl 1 rfl) ?_
      refine lv_l2i hx hb d_Mo_byteAt_23 rfl ?_
      obtain ⟨b3, h⟩ := ok_g h
      refine alM_1 C0 hw b3 d_Mo_byteAt_24 ?_
      refine lv_sipush (v := (255 : Int32)) hx hb d_Mo_byteAt_25 (by decide) ?_
      refine lv_iand hx hb d_Mo_byteAt_28 ?_
      exact w_Mo_byteAt_29 o C0 q ((z_gN q 0 (x1.toInt32).toNatClampNeg) &&& (255 : Int32)) h H locs ls hw (lv_sub hl [] rfl)
    · have h := ok_f h (fun z => c2 ((lg_cmp_lt _ _).mpr z))
      exact w_Mo_byteAt_14 o C0 q h H locs ls hw (lv_sub hl [] rfl)
def kb_Mo_eight_5 (ih5 : Int64 × Int64 × Int32 → Option Int64) (x1 : Int64) (x3 : Int64) (x5 : Int32) (q : z_Sg) : Option Int64 :=
  if (8 : Int32) ≤ x5 then (some x3) else ((f_Mo_byteAt (x1 + (x5.toInt64)) q).bind (fun r2 => z_nm ((x3 ||| (z_lshl (r2.toInt64) ((8 : Int32) * x5)))) (fun n3 => z_nm (x5 + (1 : Int32)) (fun n4 => ih5 (x1, n3, n4)))))
def k_Mo_eight_5 (x1 : Int64) (x3 : Int64) (x5 : Int32) (q : z_Sg) : Option Int64 := z_lo (fun ih5 a => kb_Mo_eight_5 ih5 a.1 a.2.1 a.2.2 q) 2000 (x1, x3, x5)
def f_Mo_eight (x1 : Int64) (q : z_Sg) : Option Int64 :=
  k_Mo_eight_5 x1 (0 : Int64) (0 : Int32) q
set_option maxHeartbeats 4000000 in
set_option maxRecDepth 100000 in
theorem wb_Mo_eight_5 {p : Program} {l : Launch} {e : Env} {s : State} {m : MethodId} {args : Array Value} {below : List Frame} {meth : Method} {c : Code} {D : va_G} {A : Nat → Prop} {ad : Nat → Nat} {ca : Nat → ClassId} (o : Int64) (C0 : z_cx z_RMo b_Mo_eight 6 (some .long) D (z_Mt ca) A p s m args meth c) (q : z_Sg) (ih5 : Int64 × Int64 × Int32 → Option Int64) (hi5 : ∀ a : Int64 × Int64 × Int32, ih5 a = some o → ∀ (H : Heap) (locs : List Loc) (ls : Array Slot), z_wd D (z_M ad ca q) A s H locs → lv_has ls 6 [(0, .ref (ad 0)), (1, .long a.1), (3, .long a.2.1), (5, .int a.2.2)] → W p l e (z_rm 1 22) s m args below meth c H locs 0 0 (z_ql below D (z_Mt ca) (z_M ad ca q) A s args o) (F0 m 5 ls [])) (x1 : Int64) (x3 : Int64) (x5 : Int32) (h : kb_Mo_eight_5 ih5 x1 x3 x5 q = some o) : ∀ (H : Heap) (locs : List Loc) (ls : Array Slot), z_wd D (z_M ad ca q) A s H locs → lv_has ls 6 [(0, .ref (ad 0)), (1, .long x1), (3, .long x3), (5, .int x5)] → W p l e (z_rm 1 22) s m args below meth c H locs 0 0 (z_ql below D (z_Mt ca) (z_M ad ca q) A s args o) (F0 m 5 ls []) := by
  obtain ⟨hx, hb, hr, hlk, hml, hown, hts, hK, hA⟩ := id C0
  intro H locs ls hw hl
  refine lv_iload hx hb d_Mo_eight_5 (lv_at hl 3 rfl) ?_
  refine lv_bipush (v := (8 : Int32)) hx hb d_Mo_eight_7 (by decide) ?_
  refine lv_icmp_ge (tgt := 37) hx hb d_Mo_eight_9 (by decide) (fun c1 => ?_) (fun c1 => ?_)
  · have h := ok_t h c1
    refine lv_lload_n hx hb d_Mo_eight_37 rfl (lv_at hl 2 rfl) ?_
    have ho := Option.some.inj h
    subst ho
    exact z_rtl C0 hw d_Mo_eight_38
  · have h := ok_f h c1
    refine lv_lload_n hx hb d_Mo_eight_12 rfl (lv_at hl 2 rfl) ?_
    refine lv_aload_n hx hb d_Mo_eight_13 rfl (lv_at hl 0 rfl) ?_
    refine lv_lload_n hx hb d_Mo_eight_14 rfl (lv_at hl 1 rfl) ?_
    refine lv_iload hx hb d_Mo_eight_15 (lv_at hl 3 rfl) ?_
    refine lv_i2l hx hb d_Mo_eight_17 rfl ?_
    refine lv_ladd hx hb d_Mo_eight_18 ?_
    obtain ⟨r2, er2, h⟩ := ok_b h
    refine z_vi (rest := [.long x3]) C0 hw (c_Mo_byteAt (x1 + (x5.toInt64)) q r2 er2) mw_Mo_byteAt ml_Mo_44 0 rfl ⟨Nat.le_of_ble_eq_true rfl, Nat.le_of_ble_eq_true rfl⟩ ⟨Nat.le_refl 0, Nat.le_refl 0⟩ rfl hl.1 rfl (Nat.le_of_ble_eq_true rfl) d_Mo_eight_19 (fun H locs hw => ?_)
    refine lv_i2l hx hb d_Mo_eight_22 rfl ?_
    refine lv_bipush (v := (8 : Int32)) hx hb d_Mo_eight_23 (by decide) ?_
    refine lv_iload hx hb d_Mo_eight_25 (lv_at hl 3 rfl) ?_
    refine lv_imul hx hb d_Mo_eight_27 ?_
    refine lv_lshl (v := (z_lshl (r2.toInt64) ((8 : Int32) * x5))) hx hb d_Mo_eight_28 rfl ?_
    refine lv_lor hx hb d_Mo_eight_29 ?_
    obtain ⟨n3, en3, h⟩ := ok_n h
    refine z_tl en3 ?_
    refine lv_lstore_n (lv' := [(3, .long n3), (0, .ref (ad 0)), (1, .long x1), (5, .int x5)]) hx hb d_Mo_eight_30 rfl hl (by decide) rfl (fun ls hl => ?_)
    obtain ⟨n4, en4, h⟩ := ok_n h
    refine lv_iinc (v := n4) (lv' := [(5, .int n4), (3, .long n3), (0, .ref (ad 0)), (1, .long x1)]) hx hb d_Mo_eight_31 hl (k := 3) rfl (by rw [en4]; rfl) (by decide) rfl (fun ls hl => ?_)
    refine lv_goto (tgt := 5) hx hb d_Mo_eight_34 (by decide) ?_
    exact hi5 (x1, n3, n4) h H locs ls hw (lv_sub hl [2, 3, 1, 0] rfl)
theorem w_Mo_eight_5 {p : Program} {l : Launch} {e : Env} {s : State} {m : MethodId} {args : Array Value} {below : List Frame} {meth : Method} {c : Code} {D : va_G} {A : Nat → Prop} {ad : Nat → Nat} {ca : Nat → ClassId} (o : Int64) (C0 : z_cx z_RMo b_Mo_eight 6 (some .long) D (z_Mt ca) A p s m args meth c) (q : z_Sg) (x1 : Int64) (x3 : Int64) (x5 : Int32) (h : k_Mo_eight_5 x1 x3 x5 q = some o) : ∀ (H : Heap) (locs : List Loc) (ls : Array Slot), z_wd D (z_M ad ca q) A s H locs → lv_has ls 6 [(0, .ref (ad 0)), (1, .long x1), (3, .long x3), (5, .int x5)] → W p l e (z_rm 1 22) s m args below meth c H locs 0 0 (z_ql below D (z_Mt ca) (z_M ad ca q) A s args o) (F0 m 5 ls []) := by
  have key : ∀ (n : Nat) (a : Int64 × Int64 × Int32), z_lo (fun ih5 a => kb_Mo_eight_5 ih5 a.1 a.2.1 a.2.2 q) n a = some o → ∀ (H : Heap) (locs : List Loc) (ls : Array Slot), z_wd D (z_M ad ca q) A s H locs → lv_has ls 6 [(0, .ref (ad 0)), (1, .long a.1), (3, .long a.2.1), (5, .int a.2.2)] → W p l e (z_rm 1 22) s m args below meth c H locs 0 0 (z_ql below D (z_Mt ca) (z_M ad ca q) A s args o) (F0 m 5 ls []) := by
    intro n
    induction n with
    | zero => intro a h; cases h
    | succ n ih => exact fun a h => wb_Mo_eight_5 o C0 q (z_lo (fun ih5 a => kb_Mo_eight_5 ih5 a.1 a.2.1 a.2.2 q) n) ih a.1 a.2.1 a.2.2 h
  exact key 2000 (x1, x3, x5) h
set_option maxHeartbeats 4000000 in
set_option maxRecDepth 100000 in
theorem c_Mo_eight {l : Launch} {D : va_G} {ad : Nat → Nat} {ca : Nat → ClassId} (x1 : Int64) (q : z_Sg) (o : Int64) (h : f_Mo_eight x1 q = some o) : z_cl l y_Mo_eight b_Mo_eight 6 (some .long) 1 22 D (z_Mt ca) (z_M ad ca q) (z_M ad ca q) [.ref (ad 0), .long x1] o := by
  refine z_cl_of (own := z_RMo) (by decide) rfl ?_
  intro p e s m below meth c A C0 hw
  obtain ⟨hx, hb, hr, hlk, hml, hown, hts, hK, hA⟩ := id C0
  generalize hH : s.heap = H at hw ⊢
  generalize hlo : ([] : List Loc) = locs at hw ⊢
  refine z_entry (lv := [(0, .ref (ad 0)), (1, .long x1)]) (Nat.le_of_ble_eq_true rfl) rfl (fun ls hl => ?_)
  unfold f_Mo_eight at h
  refine lv_lconst (v := (0 : Int64)) hx hb d_Mo_eight_0 (by decide) ?_
  refine lv_lstore_n (lv' := [(3, .long (0 : Int64)), (0, .ref (ad 0)), (1, .long x1)]) hx hb d_Mo_eight_1 rfl hl (by decide) rfl (fun ls hl => ?_)
  refine lv_iconst (v := (0 : Int32)) hx hb d_Mo_eight_2 (by decide) ?_
  refine lv_istore (lv' := [(5, .int (0 : Int32)), (3, .long (0 : Int64)), (0, .ref (ad 0)), (1, .long x1)]) hx hb d_Mo_eight_3 hl (by decide) rfl (fun ls hl => ?_)
  exact w_Mo_eight_5 o C0 q x1 (0 : Int64) (0 : Int32) h H locs ls hw (lv_sub hl [2, 3, 1, 0] rfl)
def f_Mo_stored (x1 : Int32) (q : z_Sg) : Option Int64 :=
  (f_Mo_eight (x1.toInt64) q).bind (fun r1 => some r1)
set_option maxHeartbeats 4000000 in
set_option maxRecDepth 100000 in
theorem c_Mo_stored {l : Launch} {D : va_G} {ad : Nat → Nat} {ca : Nat → ClassId} (x1 : Int32) (q : z_Sg) (o : Int64) (h : f_Mo_stored x1 q = some o) : z_cl l y_Mo_stored b_Mo_stored 2 (some .long) 2 47 D (z_Mt ca) (z_M ad ca q) (z_M ad ca q) [.ref (ad 0), .int x1] o := by
  refine z_cl_of (own := z_RMo) (by decide) rfl ?_
  intro p e s m below meth c A C0 hw
  obtain ⟨hx, hb, hr, hlk, hml, hown, hts, hK, hA⟩ := id C0
  generalize hH : s.heap = H at hw ⊢
  generalize hlo : ([] : List Loc) = locs at hw ⊢
  refine z_entry (lv := [(0, .ref (ad 0)), (1, .int x1)]) (Nat.le_of_ble_eq_true rfl) rfl (fun ls hl => ?_)
  unfold f_Mo_stored at h
  refine lv_aload_n hx hb d_Mo_stored_0 rfl (lv_at hl 0 rfl) ?_
  refine lv_iload_n hx hb d_Mo_stored_1 rfl (lv_at hl 1 rfl) ?_
  refine lv_i2l hx hb d_Mo_stored_2 rfl ?_
  obtain ⟨r1, er1, h⟩ := ok_b h
  refine z_vl (rest := []) C0 hw (c_Mo_eight (x1.toInt64) q r1 er1) mw_Mo_eight ml_Mo_62 0 rfl ⟨Nat.le_of_ble_eq_true rfl, Nat.le_of_ble_eq_true rfl⟩ ⟨Nat.le_refl 0, Nat.le_refl 0⟩ rfl hl.1 rfl (Nat.le_of_ble_eq_true rfl) d_Mo_stored_3 (fun H locs hw => ?_)
  have ho := Option.some.inj h
  subst ho
  exact z_rtl C0 hw d_Mo_stored_6
def f_Mo_join (x0 : Int32) (x1 : Int32) (q : z_Sg) : Option Int64 :=
  some ((z_lshl (x0.toInt64) (32 : Int32)) ||| ((x1.toInt64) &&& (4294967295 : Int64)))
set_option maxHeartbeats 4000000 in
set_option maxRecDepth 100000 in
theorem c_Mo_join {l : Launch} {D : va_G} {ad : Nat → Nat} {ca : Nat → ClassId} (x0 : Int32) (x1 : Int32) (q : z_Sg) (o : Int64) (h : f_Mo_join x0 x1 q = some o) : z_cl l y_Mo_join b_Mo_join 2 (some .long) 0 0 D (z_Mt ca) (z_M ad ca q) (z_M ad ca q) [.int x0, .int x1] o := by
  refine z_cl_of (own := z_RMo) (by decide) rfl ?_
  intro p e s m below meth c A C0 hw
  obtain ⟨hx, hb, hr, hlk, hml, hown, hts, hK, hA⟩ := id C0
  generalize hH : s.heap = H at hw ⊢
  generalize hlo : ([] : List Loc) = locs at hw ⊢
  refine z_entry (lv := [(0, .int x0), (1, .int x1)]) (Nat.le_of_ble_eq_true rfl) rfl (fun ls hl => ?_)
  unfold f_Mo_join at h
  refine lv_iload_n hx hb d_Mo_join_0 rfl (lv_at hl 0 rfl) ?_
  refine lv_i2l hx hb d_Mo_join_1 rfl ?_
  refine lv_bipush (v := (32 : Int32)) hx hb d_Mo_join_2 (by decide) ?_
  refine lv_lshl (v := (z_lshl (x0.toInt64) (32 : Int32))) hx hb d_Mo_join_4 rfl ?_
  refine lv_iload_n hx hb d_Mo_join_5 rfl (lv_at hl 1 rfl) ?_
  refine lv_i2l hx hb d_Mo_join_6 rfl ?_
  refine lv_ldc2 (own := z_RMo) hx hb hown (hts _ kl_Mo_459) d_Mo_join_7 ?_
  refine lv_land hx hb d_Mo_join_10 ?_
  refine lv_lor hx hb d_Mo_join_11 ?_
  have ho := Option.some.inj h
  subst ho
  exact z_rtl C0 hw d_Mo_join_12
def k_Mo_setFlags_145 (t1 : Int32) (t2 : Int32) (q : z_Sg) : Option z_Sg :=
  if z_bad t1 7 then none else (z_nm (z_sN q 1 t1.toNatClampNeg (vp_nar .boolean t2)) (fun q21 => some q21))
def k_Mo_setFlags_123 (x1 : Int64) (t1 : Int32) (t2 : Int32) (q : z_Sg) : Option z_Sg :=
  if z_bad t1 7 then none else (z_nm (z_sN q 1 t1.toNatClampNeg (vp_nar .boolean t2)) (fun q18 => if (x1 &&& (2048 : Int64)) = (0 : Int64) then (k_Mo_setFlags_145 (6 : Int32) (0 : Int32) q18) else (k_Mo_setFlags_145 (6 : Int32) (1 : Int32) q18)))
def k_Mo_setFlags_102 (x1 : Int64) (t1 : Int32) (t2 : Int32) (q : z_Sg) : Option z_Sg :=
  if z_bad t1 7 then none else (z_nm (z_sN q 1 t1.toNatClampNeg (vp_nar .boolean t2)) (fun q15 => if (x1 &&& (1024 : Int64)) = (0 : Int64) then (k_Mo_setFlags_123 x1 (5 : Int32) (0 : Int32) q15) else (k_Mo_setFlags_123 x1 (5 : Int32) (1 : Int32) q15)))
def k_Mo_setFlags_81 (x1 : Int64) (t1 : Int32) (t2 : Int32) (q : z_Sg) : Option z_Sg :=
  if z_bad t1 7 then none else (z_nm (z_sN q 1 t1.toNatClampNeg (vp_nar .boolean t2)) (fun q12 => if (x1 &&& (128 : Int64)) = (0 : Int64) then (k_Mo_setFlags_102 x1 (4 : Int32) (0 : Int32) q12) else (k_Mo_setFlags_102 x1 (4 : Int32) (1 : Int32) q12)))
def k_Mo_setFlags_60 (x1 : Int64) (t1 : Int32) (t2 : Int32) (q : z_Sg) : Option z_Sg :=
  if z_bad t1 7 then none else (z_nm (z_sN q 1 t1.toNatClampNeg (vp_nar .boolean t2)) (fun q9 => if (x1 &&& (64 : Int64)) = (0 : Int64) then (k_Mo_setFlags_81 x1 (3 : Int32) (0 : Int32) q9) else (k_Mo_setFlags_81 x1 (3 : Int32) (1 : Int32) q9)))
def k_Mo_setFlags_39 (x1 : Int64) (t1 : Int32) (t2 : Int32) (q : z_Sg) : Option z_Sg :=
  if z_bad t1 7 then none else (z_nm (z_sN q 1 t1.toNatClampNeg (vp_nar .boolean t2)) (fun q6 => if (x1 &&& (16 : Int64)) = (0 : Int64) then (k_Mo_setFlags_60 x1 (2 : Int32) (0 : Int32) q6) else (k_Mo_setFlags_60 x1 (2 : Int32) (1 : Int32) q6)))
def k_Mo_setFlags_18 (x1 : Int64) (t1 : Int32) (t2 : Int32) (q : z_Sg) : Option z_Sg :=
  if z_bad t1 7 then none else (z_nm (z_sN q 1 t1.toNatClampNeg (vp_nar .boolean t2)) (fun q3 => if (x1 &&& (4 : Int64)) = (0 : Int64) then (k_Mo_setFlags_39 x1 (1 : Int32) (0 : Int32) q3) else (k_Mo_setFlags_39 x1 (1 : Int32) (1 : Int32) q3)))
def f_Mo_setFlags (x1 : Int64) (q : z_Sg) : Option z_Sg :=
  if (x1 &&& (1 : Int64)) = (0 : Int64) then (k_Mo_setFlags_18 x1 (0 : Int32) (0 : Int32) q) else (k_Mo_setFlags_18 x1 (0 : Int32) (1 : Int32) q)
set_option maxHeartbeats 4000000 in
set_option maxRecDepth 100000 in
theorem w_Mo_setFlags_145 {p : Program} {l : Launch} {e : Env} {s : State} {m : MethodId} {args : Array Value} {below : List Frame} {meth : Method} {c : Code} {D : va_G} {A : Nat → Prop} {ad : Nat → Nat} {ca : Nat → ClassId} (o : z_Sg) (C0 : z_cx z_RMo b_Mo_setFlags 3 none D (z_Mt ca) A p s m args meth c) (q : z_Sg) (t1 : Int32) (t2 : Int32) (h : k_Mo_setFlags_145 t1 t2 q = some o) : ∀ (H : Heap) (locs : List Loc) (ls : Array Slot), z_wd D (z_M ad ca q) A s H locs → lv_has ls 3 [] → W p l e (z_rm 0 0) s m args below meth c H locs 0 0 (z_qv below D (z_Mt ca) (z_M ad ca o) A s args) (F0 m 145 ls [.int t2, .int t1, .ref (ad 4)]) := by
  obtain ⟨hx, hb, hr, hlk, hml, hown, hts, hK, hA⟩ := id C0
  intro H locs ls hw hl
  obtain ⟨b20, h⟩ := ok_g h
  refine asM_4 C0 hw b20 d_Mo_setFlags_145 (fun H locs hw => ?_)
  obtain ⟨q21, eq21, h⟩ := ok_n h
  rw [← eq21] at hw
  have ho := Option.some.inj h
  subst ho
  exact z_rtv C0 hw d_Mo_setFlags_146
set_option maxHeartbeats 4000000 in
set_option maxRecDepth 100000 in
theorem w_Mo_setFlags_123 {p : Program} {l : Launch} {e : Env} {s : State} {m : MethodId} {args : Array Value} {below : List Frame} {meth : Method} {c : Code} {D : va_G} {A : Nat → Prop} {ad : Nat → Nat} {ca : Nat → ClassId} (o : z_Sg) (C0 : z_cx z_RMo b_Mo_setFlags 3 none D (z_Mt ca) A p s m args meth c) (q : z_Sg) (x1 : Int64) (t1 : Int32) (t2 : Int32) (h : k_Mo_setFlags_123 x1 t1 t2 q = some o) : ∀ (H : Heap) (locs : List Loc) (ls : Array Slot), z_wd D (z_M ad ca q) A s H locs → lv_has ls 3 [(0, .ref (ad 0)), (1, .long x1)] → W p l e (z_rm 0 0) s m args below meth c H locs 0 0 (z_qv below D (z_Mt ca) (z_M ad ca o) A s args) (F0 m 123 ls [.int t2, .int t1, .ref (ad 4)]) := by
  obtain ⟨hx, hb, hr, hlk, hml, hown, hts, hK, hA⟩ := id C0
  intro H locs ls hw hl
  obtain ⟨b17, h⟩ := ok_g h
  refine asM_4 C0 hw b17 d_Mo_setFlags_123 (fun H locs hw => ?_)
  obtain ⟨q18, eq18, h⟩ := ok_n h
  rw [← eq18] at hw
  refine lv_aload_n hx hb d_Mo_setFlags_124 rfl (lv_at hl 0 rfl) ?_
  refine gfM_0_flag C0 hw fl_Mo_21 d_Mo_setFlags_125 ?_
  refine lv_bipush (v := (6 : Int32)) hx hb d_Mo_setFlags_128 (by decide) ?_
  refine lv_lload_n hx hb d_Mo_setFlags_130 rfl (lv_at hl 1 rfl) ?_
  refine lv_ldc2 (own := z_RMo) hx hb hown (hts _ kl_Mo_457) d_Mo_setFlags_131 ?_
  refine lv_land hx hb d_Mo_setFlags_134 ?_
  refine lv_lconst (v := (0 : Int64)) hx hb d_Mo_setFlags_135 (by decide) ?_
  refine W.lcmp hx hb d_Mo_setFlags_136 ?_
  refine lv_if_eq (tgt := 144) hx hb d_Mo_setFlags_137 (by decide) (fun c19 => ?_) (fun c19 => ?_)
  · have h := ok_t h ((lg_cmp_eq _ _).mp c19)
    refine lv_iconst (v := (0 : Int32)) hx hb d_Mo_setFlags_144 (by decide) ?_
    exact w_Mo_setFlags_145 o C0 q18 (6 : Int32) (0 : Int32) h H locs ls hw (lv_sub hl [] rfl)
  · have h := ok_f h (fun z => c19 ((lg_cmp_eq _ _).mpr z))
    refine lv_iconst (v := (1 : Int32)) hx hb d_Mo_setFlags_140 (by decide) ?_
    refine lv_goto (tgt := 145) hx hb d_Mo_setFlags_141 (by decide) ?_
    exact w_Mo_setFlags_145 o C0 q18 (6 : Int32) (1 : Int32) h H locs ls hw (lv_sub hl [] rfl)
set_option maxHeartbeats 4000000 in
set_option maxRecDepth 100000 in
theorem w_Mo_setFlags_102 {p : Program} {l : Launch} {e : Env} {s : State} {m : MethodId} {args : Array Value} {below : List Frame} {meth : Method} {c : Code} {D : va_G} {A : Nat → Prop} {ad : Nat → Nat} {ca : Nat → ClassId} (o : z_Sg) (C0 : z_cx z_RMo b_Mo_setFlags 3 none D (z_Mt ca) A p s m args meth c) (q : z_Sg) (x1 : Int64) (t1 : Int32) (t2 : Int32) (h : k_Mo_setFlags_102 x1 t1 t2 q = some o) : ∀ (H : Heap) (locs : List Loc) (ls : Array Slot), z_wd D (z_M ad ca q) A s H locs → lv_has ls 3 [(0, .ref (ad 0)), (1, .long x1)] → W p l e (z_rm 0 0) s m args below meth c H locs 0 0 (z_qv below D (z_Mt ca) (z_M ad ca o) A s args) (F0 m 102 ls [.int t2, .int t1, .ref (ad 4)]) := by
  obtain ⟨hx, hb, hr, hlk, hml, hown, hts, hK, hA⟩ := id C0
  intro H locs ls hw hl
  obtain ⟨b14, h⟩ := ok_g h
  refine asM_4 C0 hw b14 d_Mo_setFlags_102 (fun H locs hw => ?_)
  obtain ⟨q15, eq15, h⟩ := ok_n h
  rw [← eq15] at hw
  refine lv_aload_n hx hb d_Mo_setFlags_103 rfl (lv_at hl 0 rfl) ?_
  refine gfM_0_flag C0 hw fl_Mo_21 d_Mo_setFlags_104 ?_
  refine lv_iconst (v := (5 : Int32)) hx hb d_Mo_setFlags_107 (by decide) ?_
  refine lv_lload_n hx hb d_Mo_setFlags_108 rfl (lv_at hl 1 rfl) ?_
  refine lv_ldc2 (own := z_RMo) hx hb hown (hts _ kl_Mo_455) d_Mo_setFlags_109 ?_
  refine lv_land hx hb d_Mo_setFlags_112 ?_
  refine lv_lconst (v := (0 : Int64)) hx hb d_Mo_setFlags_113 (by decide) ?_
  refine W.lcmp hx hb d_Mo_setFlags_114 ?_
  refine lv_if_eq (tgt := 122) hx hb d_Mo_setFlags_115 (by decide) (fun c16 => ?_) (fun c16 => ?_)
  · have h := ok_t h ((lg_cmp_eq _ _).mp c16)
    refine lv_iconst (v := (0 : Int32)) hx hb d_Mo_setFlags_122 (by decide) ?_
    exact w_Mo_setFlags_123 o C0 q15 x1 (5 : Int32) (0 : Int32) h H locs ls hw (lv_sub hl [0, 1] rfl)
  · have h := ok_f h (fun z => c16 ((lg_cmp_eq _ _).mpr z))
    refine lv_iconst (v := (1 : Int32)) hx hb d_Mo_setFlags_118 (by decide) ?_
    refine lv_goto (tgt := 123) hx hb d_Mo_setFlags_119 (by decide) ?_
    exact w_Mo_setFlags_123 o C0 q15 x1 (5 : Int32) (1 : Int32) h H locs ls hw (lv_sub hl [0, 1] rfl)
set_option maxHeartbeats 4000000 in
set_option maxRecDepth 100000 in
theorem w_Mo_setFlags_81 {p : Program} {l : Launch} {e : Env} {s : State} {m : MethodId} {args : Array Value} {below : List Frame} {meth : Method} {c : Code} {D : va_G} {A : Nat → Prop} {ad : Nat → Nat} {ca : Nat → ClassId} (o : z_Sg) (C0 : z_cx z_RMo b_Mo_setFlags 3 none D (z_Mt ca) A p s m args meth c) (q : z_Sg) (x1 : Int64) (t1 : Int32) (t2 : Int32) (h : k_Mo_setFlags_81 x1 t1 t2 q = some o) : ∀ (H : Heap) (locs : List Loc) (ls : Array Slot), z_wd D (z_M ad ca q) A s H locs → lv_has ls 3 [(0, .ref (ad 0)), (1, .long x1)] → W p l e (z_rm 0 0) s m args below meth c H locs 0 0 (z_qv below D (z_Mt ca) (z_M ad ca o) A s args) (F0 m 81 ls [.int t2, .int t1, .ref (ad 4)]) := by
  obtain ⟨hx, hb, hr, hlk, hml, hown, hts, hK, hA⟩ := id C0
  intro H locs ls hw hl
  obtain ⟨b11, h⟩ := ok_g h
  refine asM_4 C0 hw b11 d_Mo_setFlags_81 (fun H locs hw => ?_)
  obtain ⟨q12, eq12, h⟩ := ok_n h
  rw [← eq12] at hw
  refine lv_aload_n hx hb d_Mo_setFlags_82 rfl (lv_at hl 0 rfl) ?_
  refine gfM_0_flag C0 hw fl_Mo_21 d_Mo_setFlags_83 ?_
  refine lv_iconst (v := (4 : Int32)) hx hb d_Mo_setFlags_86 (by decide) ?_
  refine lv_lload_n hx hb d_Mo_setFlags_87 rfl (lv_at hl 1 rfl) ?_
  refine lv_ldc2 (own := z_RMo) hx hb hown (hts _ kl_Mo_66) d_Mo_setFlags_88 ?_
  refine lv_land hx hb d_Mo_setFlags_91 ?_
  refine lv_lconst (v := (0 : Int64)) hx hb d_Mo_setFlags_92 (by decide) ?_
  refine W.lcmp hx hb d_Mo_setFlags_93 ?_
  refine lv_if_eq (tgt := 101) hx hb d_Mo_setFlags_94 (by decide) (fun c13 => ?_) (fun c13 => ?_)
  · have h := ok_t h ((lg_cmp_eq _ _).mp c13)
    refine lv_iconst (v := (0 : Int32)) hx hb d_Mo_setFlags_101 (by decide) ?_
    exact w_Mo_setFlags_102 o C0 q12 x1 (4 : Int32) (0 : Int32) h H locs ls hw (lv_sub hl [0, 1] rfl)
  · have h := ok_f h (fun z => c13 ((lg_cmp_eq _ _).mpr z))
    refine lv_iconst (v := (1 : Int32)) hx hb d_Mo_setFlags_97 (by decide) ?_
    refine lv_goto (tgt := 102) hx hb d_Mo_setFlags_98 (by decide) ?_
    exact w_Mo_setFlags_102 o C0 q12 x1 (4 : Int32) (1 : Int32) h H locs ls hw (lv_sub hl [0, 1] rfl)
set_option maxHeartbeats 4000000 in
set_option maxRecDepth 100000 in
theorem w_Mo_setFlags_60 {p : Program} {l : Launch} {e : Env} {s : State} {m : MethodId} {args : Array Value} {below : List Frame} {meth : Method} {c : Code} {D : va_G} {A : Nat → Prop} {ad : Nat → Nat} {ca : Nat → ClassId} (o : z_Sg) (C0 : z_cx z_RMo b_Mo_setFlags 3 none D (z_Mt ca) A p s m args meth c) (q : z_Sg) (x1 : Int64) (t1 : Int32) (t2 : Int32) (h : k_Mo_setFlags_60 x1 t1 t2 q = some o) : ∀ (H : Heap) (locs : List Loc) (ls : Array Slot), z_wd D (z_M ad ca q) A s H locs → lv_has ls 3 [(0, .ref (ad 0)), (1, .long x1)] → W p l e (z_rm 0 0) s m args below meth c H locs 0 0 (z_qv below D (z_Mt ca) (z_M ad ca o) A s args) (F0 m 60 ls [.int t2, .int t1, .ref (ad 4)]) := by
  obtain ⟨hx, hb, hr, hlk, hml, hown, hts, hK, hA⟩ := id C0
  intro H locs ls hw hl
  obtain ⟨b8, h⟩ := ok_g h
  refine asM_4 C0 hw b8 d_Mo_setFlags_60 (fun H locs hw => ?_)
  obtain ⟨q9, eq9, h⟩ := ok_n h
  rw [← eq9] at hw
  refine lv_aload_n hx hb d_Mo_setFlags_61 rfl (lv_at hl 0 rfl) ?_
  refine gfM_0_flag C0 hw fl_Mo_21 d_Mo_setFlags_62 ?_
  refine lv_iconst (v := (3 : Int32)) hx hb d_Mo_setFlags_65 (by decide) ?_
  refine lv_lload_n hx hb d_Mo_setFlags_66 rfl (lv_at hl 1 rfl) ?_
  refine lv_ldc2 (own := z_RMo) hx hb hown (hts _ kl_Mo_453) d_Mo_setFlags_67 ?_
  refine lv_land hx hb d_Mo_setFlags_70 ?_
  refine lv_lconst (v := (0 : Int64)) hx hb d_Mo_setFlags_71 (by decide) ?_
  refine W.lcmp hx hb d_Mo_setFlags_72 ?_
  refine lv_if_eq (tgt := 80) hx hb d_Mo_setFlags_73 (by decide) (fun c10 => ?_) (fun c10 => ?_)
  · have h := ok_t h ((lg_cmp_eq _ _).mp c10)
    refine lv_iconst (v := (0 : Int32)) hx hb d_Mo_setFlags_80 (by decide) ?_
    exact w_Mo_setFlags_81 o C0 q9 x1 (3 : Int32) (0 : Int32) h H locs ls hw (lv_sub hl [0, 1] rfl)
  · have h := ok_f h (fun z => c10 ((lg_cmp_eq _ _).mpr z))
    refine lv_iconst (v := (1 : Int32)) hx hb d_Mo_setFlags_76 (by decide) ?_
    refine lv_goto (tgt := 81) hx hb d_Mo_setFlags_77 (by decide) ?_
    exact w_Mo_setFlags_81 o C0 q9 x1 (3 : Int32) (1 : Int32) h H locs ls hw (lv_sub hl [0, 1] rfl)
set_option maxHeartbeats 4000000 in
set_option maxRecDepth 100000 in
theorem w_Mo_setFlags_39 {p : Program} {l : Launch} {e : Env} {s : State} {m : MethodId} {args : Array Value} {below : List Frame} {meth : Method} {c : Code} {D : va_G} {A : Nat → Prop} {ad : Nat → Nat} {ca : Nat → ClassId} (o : z_Sg) (C0 : z_cx z_RMo b_Mo_setFlags 3 none D (z_Mt ca) A p s m args meth c) (q : z_Sg) (x1 : Int64) (t1 : Int32) (t2 : Int32) (h : k_Mo_setFlags_39 x1 t1 t2 q = some o) : ∀ (H : Heap) (locs : List Loc) (ls : Array Slot), z_wd D (z_M ad ca q) A s H locs → lv_has ls 3 [(0, .ref (ad 0)), (1, .long x1)] → W p l e (z_rm 0 0) s m args below meth c H locs 0 0 (z_qv below D (z_Mt ca) (z_M ad ca o) A s args) (F0 m 39 ls [.int t2, .int t1, .ref (ad 4)]) := by
  obtain ⟨hx, hb, hr, hlk, hml, hown, hts, hK, hA⟩ := id C0
  intro H locs ls hw hl
  obtain ⟨b5, h⟩ := ok_g h
  refine asM_4 C0 hw b5 d_Mo_setFlags_39 (fun H locs hw => ?_)
  obtain ⟨q6, eq6, h⟩ := ok_n h
  rw [← eq6] at hw
  refine lv_aload_n hx hb d_Mo_setFlags_40 rfl (lv_at hl 0 rfl) ?_
  refine gfM_0_flag C0 hw fl_Mo_21 d_Mo_setFlags_41 ?_
  refine lv_iconst (v := (2 : Int32)) hx hb d_Mo_setFlags_44 (by decide) ?_
  refine lv_lload_n hx hb d_Mo_setFlags_45 rfl (lv_at hl 1 rfl) ?_
  refine lv_ldc2 (own := z_RMo) hx hb hown (hts _ kl_Mo_451) d_Mo_setFlags_46 ?_
  refine lv_land hx hb d_Mo_setFlags_49 ?_
  refine lv_lconst (v := (0 : Int64)) hx hb d_Mo_setFlags_50 (by decide) ?_
  refine W.lcmp hx hb d_Mo_setFlags_51 ?_
  refine lv_if_eq (tgt := 59) hx hb d_Mo_setFlags_52 (by decide) (fun c7 => ?_) (fun c7 => ?_)
  · have h := ok_t h ((lg_cmp_eq _ _).mp c7)
    refine lv_iconst (v := (0 : Int32)) hx hb d_Mo_setFlags_59 (by decide) ?_
    exact w_Mo_setFlags_60 o C0 q6 x1 (2 : Int32) (0 : Int32) h H locs ls hw (lv_sub hl [0, 1] rfl)
  · have h := ok_f h (fun z => c7 ((lg_cmp_eq _ _).mpr z))
    refine lv_iconst (v := (1 : Int32)) hx hb d_Mo_setFlags_55 (by decide) ?_
    refine lv_goto (tgt := 60) hx hb d_Mo_setFlags_56 (by decide) ?_
    exact w_Mo_setFlags_60 o C0 q6 x1 (2 : Int32) (1 : Int32) h H locs ls hw (lv_sub hl [0, 1] rfl)
set_option maxHeartbeats 4000000 in
set_option maxRecDepth 100000 in
theorem w_Mo_setFlags_18 {p : Program} {l : Launch} {e : Env} {s : State} {m : MethodId} {args : Array Value} {below : List Frame} {meth : Method} {c : Code} {D : va_G} {A : Nat → Prop} {ad : Nat → Nat} {ca : Nat → ClassId} (o : z_Sg) (C0 : z_cx z_RMo b_Mo_setFlags 3 none D (z_Mt ca) A p s m args meth c) (q : z_Sg) (x1 : Int64) (t1 : Int32) (t2 : Int32) (h : k_Mo_setFlags_18 x1 t1 t2 q = some o) : ∀ (H : Heap) (locs : List Loc) (ls : Array Slot), z_wd D (z_M ad ca q) A s H locs → lv_has ls 3 [(0, .ref (ad 0)), (1, .long x1)] → W p l e (z_rm 0 0) s m args below meth c H locs 0 0 (z_qv below D (z_Mt ca) (z_M ad ca o) A s args) (F0 m 18 ls [.int t2, .int t1, .ref (ad 4)]) := by
  obtain ⟨hx, hb, hr, hlk, hml, hown, hts, hK, hA⟩ := id C0
  intro H locs ls hw hl
  obtain ⟨b2, h⟩ := ok_g h
  refine asM_4 C0 hw b2 d_Mo_setFlags_18 (fun H locs hw => ?_)
  obtain ⟨q3, eq3, h⟩ := ok_n h
  rw [← eq3] at hw
  refine lv_aload_n hx hb d_Mo_setFlags_19 rfl (lv_at hl 0 rfl) ?_
  refine gfM_0_flag C0 hw fl_Mo_21 d_Mo_setFlags_20 ?_
  refine lv_iconst (v := (1 : Int32)) hx hb d_Mo_setFlags_23 (by decide) ?_
  refine lv_lload_n hx hb d_Mo_setFlags_24 rfl (lv_at hl 1 rfl) ?_
  refine lv_ldc2 (own := z_RMo) hx hb hown (hts _ kl_Mo_75) d_Mo_setFlags_25 ?_
  refine lv_land hx hb d_Mo_setFlags_28 ?_
  refine lv_lconst (v := (0 : Int64)) hx hb d_Mo_setFlags_29 (by decide) ?_
  refine W.lcmp hx hb d_Mo_setFlags_30 ?_
  refine lv_if_eq (tgt := 38) hx hb d_Mo_setFlags_31 (by decide) (fun c4 => ?_) (fun c4 => ?_)
  · have h := ok_t h ((lg_cmp_eq _ _).mp c4)
    refine lv_iconst (v := (0 : Int32)) hx hb d_Mo_setFlags_38 (by decide) ?_
    exact w_Mo_setFlags_39 o C0 q3 x1 (1 : Int32) (0 : Int32) h H locs ls hw (lv_sub hl [0, 1] rfl)
  · have h := ok_f h (fun z => c4 ((lg_cmp_eq _ _).mpr z))
    refine lv_iconst (v := (1 : Int32)) hx hb d_Mo_setFlags_34 (by decide) ?_
    refine lv_goto (tgt := 39) hx hb d_Mo_setFlags_35 (by decide) ?_
    exact w_Mo_setFlags_39 o C0 q3 x1 (1 : Int32) (1 : Int32) h H locs ls hw (lv_sub hl [0, 1] rfl)
set_option maxHeartbeats 4000000 in
set_option maxRecDepth 100000 in
theorem c_Mo_setFlags {l : Launch} {D : va_G} {ad : Nat → Nat} {ca : Nat → ClassId} (x1 : Int64) (q : z_Sg) (o : z_Sg) (h : f_Mo_setFlags x1 q = some o) : z_cv l y_Mo_setFlags b_Mo_setFlags 3 none 0 0 D (z_Mt ca) (z_M ad ca q) (z_M ad ca o) [.ref (ad 0), .long x1] := by
  refine z_cv_of (own := z_RMo) (by decide) rfl ?_
  intro p e s m below meth c A C0 hw
  obtain ⟨hx, hb, hr, hlk, hml, hown, hts, hK, hA⟩ := id C0
  generalize hH : s.heap = H at hw ⊢
  generalize hlo : ([] : List Loc) = locs at hw ⊢
  refine z_entry (lv := [(0, .ref (ad 0)), (1, .long x1)]) (Nat.le_of_ble_eq_true rfl) rfl (fun ls hl => ?_)
  unfold f_Mo_setFlags at h
  refine lv_aload_n hx hb d_Mo_setFlags_0 rfl (lv_at hl 0 rfl) ?_
  refine gfM_0_flag C0 hw fl_Mo_21 d_Mo_setFlags_1 ?_
  refine lv_iconst (v := (0 : Int32)) hx hb d_Mo_setFlags_4 (by decide) ?_
  refine lv_lload_n hx hb d_Mo_setFlags_5 rfl (lv_at hl 1 rfl) ?_
  refine lv_lconst (v := (1 : Int64)) hx hb d_Mo_setFlags_6 (by decide) ?_
  refine lv_land hx hb d_Mo_setFlags_7 ?_
  refine lv_lconst (v := (0 : Int64)) hx hb d_Mo_setFlags_8 (by decide) ?_
  refine W.lcmp hx hb d_Mo_setFlags_9 ?_
  refine lv_if_eq (tgt := 17) hx hb d_Mo_setFlags_10 (by decide) (fun c1 => ?_) (fun c1 => ?_)
  · have h := ok_t h ((lg_cmp_eq _ _).mp c1)
    refine lv_iconst (v := (0 : Int32)) hx hb d_Mo_setFlags_17 (by decide) ?_
    exact w_Mo_setFlags_18 o C0 q x1 (0 : Int32) (0 : Int32) h H locs ls hw (lv_sub hl [0, 1] rfl)
  · have h := ok_f h (fun z => c1 ((lg_cmp_eq _ _).mpr z))
    refine lv_iconst (v := (1 : Int32)) hx hb d_Mo_setFlags_13 (by decide) ?_
    refine lv_goto (tgt := 18) hx hb d_Mo_setFlags_14 (by decide) ?_
    exact w_Mo_setFlags_18 o C0 q x1 (0 : Int32) (1 : Int32) h H locs ls hw (lv_sub hl [0, 1] rfl)
def k_Mo_set_17 (q : z_Sg) : Option (Int32 × z_Sg) :=
  some ((0 : Int32), q)
def k_Mo_set_105 (q : z_Sg) : Option (Int32 × z_Sg) :=
  some ((1 : Int32), q)
def k_Mo_set_93 (x1 : Int32) (x4 : Int64) (q : z_Sg) : Option (Int32 × z_Sg) :=
  if x1 = (21 : Int32) then (z_nm (z_sL q 4 x4) (fun q11 => k_Mo_set_105 q11)) else (k_Mo_set_105 q)
def k_Mo_set_81 (x1 : Int32) (x4 : Int64) (q : z_Sg) : Option (Int32 × z_Sg) :=
  if x1 = (20 : Int32) then ((f_Mo_setFlags x4 q).bind (fun r12 => k_Mo_set_93 x1 x4 r12)) else (k_Mo_set_93 x1 x4 q)
def k_Mo_set_69 (x1 : Int32) (x4 : Int64) (q : z_Sg) : Option (Int32 × z_Sg) :=
  if x1 = (19 : Int32) then (z_nm (z_sL q 3 x4) (fun q13 => k_Mo_set_81 x1 x4 q13)) else (k_Mo_set_81 x1 x4 q)
def k_Mo_set_57 (x1 : Int32) (x4 : Int64) (q : z_Sg) : Option (Int32 × z_Sg) :=
  if x1 = (18 : Int32) then (z_nm (z_sL q 2 x4) (fun q14 => k_Mo_set_69 x1 x4 q14)) else (k_Mo_set_69 x1 x4 q)
def k_Mo_set_45 (x1 : Int32) (x4 : Int64) (q : z_Sg) : Option (Int32 × z_Sg) :=
  if x1 = (17 : Int32) then (z_nm (z_sL q 1 x4) (fun q15 => k_Mo_set_57 x1 x4 q15)) else (k_Mo_set_57 x1 x4 q)
def k_Mo_set_33 (x1 : Int32) (x4 : Int64) (q : z_Sg) : Option (Int32 × z_Sg) :=
  if x1 = (16 : Int32) then (z_nm (z_sL q 0 x4) (fun q16 => k_Mo_set_45 x1 x4 q16)) else (k_Mo_set_45 x1 x4 q)
def f_Mo_set (x1 : Int32) (x2 : Int32) (x3 : Int32) (q : z_Sg) : Option (Int32 × z_Sg) :=
  (f_Mo_join x2 x3 q).bind (fun r1 => if x1 < 0 then (k_Mo_set_17 q) else (if x1 ≤ (21 : Int32) then (if (16 : Int32) ≤ x1 then (k_Mo_set_33 x1 r1 q) else (if z_bad x1 16 then none else (z_nm (z_sM q 0 x1.toNatClampNeg r1) (fun q18 => k_Mo_set_33 x1 r1 q18)))) else (k_Mo_set_17 q)))
set_option maxHeartbeats 4000000 in
set_option maxRecDepth 100000 in
theorem w_Mo_set_17 {p : Program} {l : Launch} {e : Env} {s : State} {m : MethodId} {args : Array Value} {below : List Frame} {meth : Method} {c : Code} {D : va_G} {A : Nat → Prop} {ad : Nat → Nat} {ca : Nat → ClassId} (o : (Int32 × z_Sg)) (C0 : z_cx z_RMo b_Mo_set 6 (some .boolean) D (z_Mt ca) A p s m args meth c) (q : z_Sg) (h : k_Mo_set_17 q = some o) : ∀ (H : Heap) (locs : List Loc) (ls : Array Slot), z_wd D (z_M ad ca q) A s H locs → lv_has ls 6 [] → W p l e (z_rm 1 22) s m args below meth c H locs 0 0 (z_qi below D (z_Mt ca) (z_M ad ca o.2) A s args o.1) (F0 m 17 ls []) := by
  obtain ⟨hx, hb, hr, hlk, hml, hown, hts, hK, hA⟩ := id C0
  intro H locs ls hw hl
  refine lv_iconst (v := (0 : Int32)) hx hb d_Mo_set_17 (by decide) ?_
  have ho := Option.some.inj h
  subst ho
  exact z_rtz C0 hw (z_bo_n (Or.inl rfl)) d_Mo_set_18
set_option maxHeartbeats 4000000 in
set_option maxRecDepth 100000 in
theorem w_Mo_set_105 {p : Program} {l : Launch} {e : Env} {s : State} {m : MethodId} {args : Array Value} {below : List Frame} {meth : Method} {c : Code} {D : va_G} {A : Nat → Prop} {ad : Nat → Nat} {ca : Nat → ClassId} (o : (Int32 × z_Sg)) (C0 : z_cx z_RMo b_Mo_set 6 (some .boolean) D (z_Mt ca) A p s m args meth c) (q : z_Sg) (h : k_Mo_set_105 q = some o) : ∀ (H : Heap) (locs : List Loc) (ls : Array Slot), z_wd D (z_M ad ca q) A s H locs → lv_has ls 6 [] → W p l e (z_rm 1 22) s m args below meth c H locs 0 0 (z_qi below D (z_Mt ca) (z_M ad ca o.2) A s args o.1) (F0 m 105 ls []) := by
  obtain ⟨hx, hb, hr, hlk, hml, hown, hts, hK, hA⟩ := id C0
  intro H locs ls hw hl
  refine lv_iconst (v := (1 : Int32)) hx hb d_Mo_set_105 (by decide) ?_
  have ho := Option.some.inj h
  subst ho
  exact z_rtz C0 hw (z_bo_n (Or.inr rfl)) d_Mo_set_106
set_option maxHeartbeats 4000000 in
set_option maxRecDepth 100000 in
theorem w_Mo_set_93 {p : Program} {l : Launch} {e : Env} {s : State} {m : MethodId} {args : Array Value} {below : List Frame} {meth : Method} {c : Code} {D : va_G} {A : Nat → Prop} {ad : Nat → Nat} {ca : Nat → ClassId} (o : (Int32 × z_Sg)) (C0 : z_cx z_RMo b_Mo_set 6 (some .boolean) D (z_Mt ca) A p s m args meth c) (q : z_Sg) (x1 : Int32) (x4 : Int64) (h : k_Mo_set_93 x1 x4 q = some o) : ∀ (H : Heap) (locs : List Loc) (ls : Array Slot), z_wd D (z_M ad ca q) A s H locs → lv_has ls 6 [(0, .ref (ad 0)), (1, .int x1), (4, .long x4)] → W p l e (z_rm 1 22) s m args below meth c H locs 0 0 (z_qi below D (z_Mt ca) (z_M ad ca o.2) A s args o.1) (F0 m 93 ls []) := by
  obtain ⟨hx, hb, hr, hlk, hml, hown, hts, hK, hA⟩ := id C0
  intro H locs ls hw hl
  refine lv_iload_n hx hb d_Mo_set_93 rfl (lv_at hl 1 rfl) ?_
  refine lv_bipush (v := (21 : Int32)) hx hb d_Mo_set_94 (by decide) ?_
  refine lv_icmp_ne (tgt := 105) hx hb d_Mo_set_96 (by decide) (fun c10 => ?_) (fun c10 => ?_)
  · have h := ok_f h c10
    exact w_Mo_set_105 o C0 q h H locs ls hw (lv_sub hl [] rfl)
  · have h := ok_t h c10
    refine lv_aload_n hx hb d_Mo_set_99 rfl (lv_at hl 0 rfl) ?_
    refine lv_lload hx hb d_Mo_set_100 (lv_at hl 2 rfl) ?_
    refine pfM_0_undefined C0 hw fl_Mo_205 d_Mo_set_102 (fun H locs hw => ?_)
    obtain ⟨q11, eq11, h⟩ := ok_n h
    rw [← eq11] at hw
    exact w_Mo_set_105 o C0 q11 h H locs ls hw (lv_sub hl [] rfl)
set_option maxHeartbeats 4000000 in
set_option maxRecDepth 100000 in
theorem w_Mo_set_81 {p : Program} {l : Launch} {e : Env} {s : State} {m : MethodId} {args : Array Value} {below : List Frame} {meth : Method} {c : Code} {D : va_G} {A : Nat → Prop} {ad : Nat → Nat} {ca : Nat → ClassId} (o : (Int32 × z_Sg)) (C0 : z_cx z_RMo b_Mo_set 6 (some .boolean) D (z_Mt ca) A p s m args meth c) (q : z_Sg) (x1 : Int32) (x4 : Int64) (h : k_Mo_set_81 x1 x4 q = some o) : ∀ (H : Heap) (locs : List Loc) (ls : Array Slot), z_wd D (z_M ad ca q) A s H locs → lv_has ls 6 [(0, .ref (ad 0)), (1, .int x1), (4, .long x4)] → W p l e (z_rm 1 22) s m args below meth c H locs 0 0 (z_qi below D (z_Mt ca) (z_M ad ca o.2) A s args o.1) (F0 m 81 ls []) := by
  obtain ⟨hx, hb, hr, hlk, hml, hown, hts, hK, hA⟩ := id C0
  intro H locs ls hw hl
  refine lv_iload_n hx hb d_Mo_set_81 rfl (lv_at hl 1 rfl) ?_
  refine lv_bipush (v := (20 : Int32)) hx hb d_Mo_set_82 (by decide) ?_
  refine lv_icmp_ne (tgt := 93) hx hb d_Mo_set_84 (by decide) (fun c9 => ?_) (fun c9 => ?_)
  · have h := ok_f h c9
    exact w_Mo_set_93 o C0 q x1 x4 h H locs ls hw (lv_sub hl [0, 1, 2] rfl)
  · have h := ok_t h c9
    refine lv_aload_n hx hb d_Mo_set_87 rfl (lv_at hl 0 rfl) ?_
    refine lv_lload hx hb d_Mo_set_88 (lv_at hl 2 rfl) ?_
    obtain ⟨r12, er12, h⟩ := ok_b h
    refine z_vv (rest := []) C0 hw (c_Mo_setFlags x4 q r12 er12) mw_Mo_setFlags ml_Mo_316 0 rfl ⟨Nat.le_of_ble_eq_true rfl, Nat.le_of_ble_eq_true rfl⟩ ⟨Nat.le_refl 0, Nat.le_refl 0⟩ rfl hl.1 rfl (Nat.le_of_ble_eq_true rfl) d_Mo_set_90 (fun H locs hw => ?_)
    exact w_Mo_set_93 o C0 r12 x1 x4 h H locs ls hw (lv_sub hl [0, 1, 2] rfl)
set_option maxHeartbeats 4000000 in
set_option maxRecDepth 100000 in
theorem w_Mo_set_69 {p : Program} {l : Launch} {e : Env} {s : State} {m : MethodId} {args : Array Value} {below : List Frame} {meth : Method} {c : Code} {D : va_G} {A : Nat → Prop} {ad : Nat → Nat} {ca : Nat → ClassId} (o : (Int32 × z_Sg)) (C0 : z_cx z_RMo b_Mo_set 6 (some .boolean) D (z_Mt ca) A p s m args meth c) (q : z_Sg) (x1 : Int32) (x4 : Int64) (h : k_Mo_set_69 x1 x4 q = some o) : ∀ (H : Heap) (locs : List Loc) (ls : Array Slot), z_wd D (z_M ad ca q) A s H locs → lv_has ls 6 [(0, .ref (ad 0)), (1, .int x1), (4, .long x4)] → W p l e (z_rm 1 22) s m args below meth c H locs 0 0 (z_qi below D (z_Mt ca) (z_M ad ca o.2) A s args o.1) (F0 m 69 ls []) := by
  obtain ⟨hx, hb, hr, hlk, hml, hown, hts, hK, hA⟩ := id C0
  intro H locs ls hw hl
  refine lv_iload_n hx hb d_Mo_set_69 rfl (lv_at hl 1 rfl) ?_
  refine lv_bipush (v := (19 : Int32)) hx hb d_Mo_set_70 (by decide) ?_
  refine lv_icmp_ne (tgt := 81) hx hb d_Mo_set_72 (by decide) (fun c8 => ?_) (fun c8 => ?_)
  · have h := ok_f h c8
    exact w_Mo_set_81 o C0 q x1 x4 h H locs ls hw (lv_sub hl [0, 1, 2] rfl)
  · have h := ok_t h c8
    refine lv_aload_n hx hb d_Mo_set_75 rfl (lv_at hl 0 rfl) ?_
    refine lv_lload hx hb d_Mo_set_76 (lv_at hl 2 rfl) ?_
    refine pfM_0_mask C0 hw fl_Mo_448 d_Mo_set_78 (fun H locs hw => ?_)
    obtain ⟨q13, eq13, h⟩ := ok_n h
    rw [← eq13] at hw
    exact w_Mo_set_81 o C0 q13 x1 x4 h H locs ls hw (lv_sub hl [0, 1, 2] rfl)
set_option maxHeartbeats 4000000 in
set_option maxRecDepth 100000 in
theorem w_Mo_set_57 {p : Program} {l : Launch} {e : Env} {s : State} {m : MethodId} {args : Array Value} {below : List Frame} {meth : Method} {c : Code} {D : va_G} {A : Nat → Prop} {ad : Nat → Nat} {ca : Nat → ClassId} (o : (Int32 × z_Sg)) (C0 : z_cx z_RMo b_Mo_set 6 (some .boolean) D (z_Mt ca) A p s m args meth c) (q : z_Sg) (x1 : Int32) (x4 : Int64) (h : k_Mo_set_57 x1 x4 q = some o) : ∀ (H : Heap) (locs : List Loc) (ls : Array Slot), z_wd D (z_M ad ca q) A s H locs → lv_has ls 6 [(0, .ref (ad 0)), (1, .int x1), (4, .long x4)] → W p l e (z_rm 1 22) s m args below meth c H locs 0 0 (z_qi below D (z_Mt ca) (z_M ad ca o.2) A s args o.1) (F0 m 57 ls []) := by
  obtain ⟨hx, hb, hr, hlk, hml, hown, hts, hK, hA⟩ := id C0
  intro H locs ls hw hl
  refine lv_iload_n hx hb d_Mo_set_57 rfl (lv_at hl 1 rfl) ?_
  refine lv_bipush (v := (18 : Int32)) hx hb d_Mo_set_58 (by decide) ?_
  refine lv_icmp_ne (tgt := 69) hx hb d_Mo_set_60 (by decide) (fun c7 => ?_) (fun c7 => ?_)
  · have h := ok_f h c7
    exact w_Mo_set_69 o C0 q x1 x4 h H locs ls hw (lv_sub hl [0, 1, 2] rfl)
  · have h := ok_t h c7
    refine lv_aload_n hx hb d_Mo_set_63 rfl (lv_at hl 0 rfl) ?_
    refine lv_lload hx hb d_Mo_set_64 (lv_at hl 2 rfl) ?_
    refine pfM_0_entryPlace C0 hw fl_Mo_445 d_Mo_set_66 (fun H locs hw => ?_)
    obtain ⟨q14, eq14, h⟩ := ok_n h
    rw [← eq14] at hw
    exact w_Mo_set_69 o C0 q14 x1 x4 h H locs ls hw (lv_sub hl [0, 1, 2] rfl)
set_option maxHeartbeats 4000000 in
set_option maxRecDepth 100000 in
theorem w_Mo_set_45 {p : Program} {l : Launch} {e : Env} {s : State} {m : MethodId} {args : Array Value} {below : List Frame} {meth : Method} {c : Code} {D : va_G} {A : Nat → Prop} {ad : Nat → Nat} {ca : Nat → ClassId} (o : (Int32 × z_Sg)) (C0 : z_cx z_RMo b_Mo_set 6 (some .boolean) D (z_Mt ca) A p s m args meth c) (q : z_Sg) (x1 : Int32) (x4 : Int64) (h : k_Mo_set_45 x1 x4 q = some o) : ∀ (H : Heap) (locs : List Loc) (ls : Array Slot), z_wd D (z_M ad ca q) A s H locs → lv_has ls 6 [(0, .ref (ad 0)), (1, .int x1), (4, .long x4)] → W p l e (z_rm 1 22) s m args below meth c H locs 0 0 (z_qi below D (z_Mt ca) (z_M ad ca o.2) A s args o.1) (F0 m 45 ls []) := by
  obtain ⟨hx, hb, hr, hlk, hml, hown, hts, hK, hA⟩ := id C0
  intro H locs ls hw hl
  refine lv_iload_n hx hb d_Mo_set_45 rfl (lv_at hl 1 rfl) ?_
  refine lv_bipush (v := (17 : Int32)) hx hb d_Mo_set_46 (by decide) ?_
  refine lv_icmp_ne (tgt := 57) hx hb d_Mo_set_48 (by decide) (fun c6 => ?_) (fun c6 => ?_)
  · have h := ok_f h c6
    exact w_Mo_set_57 o C0 q x1 x4 h H locs ls hw (lv_sub hl [0, 1, 2] rfl)
  · have h := ok_t h c6
    refine lv_aload_n hx hb d_Mo_set_51 rfl (lv_at hl 0 rfl) ?_
    refine lv_lload hx hb d_Mo_set_52 (lv_at hl 2 rfl) ?_
    refine pfM_0_table C0 hw fl_Mo_52 d_Mo_set_54 (fun H locs hw => ?_)
    obtain ⟨q15, eq15, h⟩ := ok_n h
    rw [← eq15] at hw
    exact w_Mo_set_57 o C0 q15 x1 x4 h H locs ls hw (lv_sub hl [0, 1, 2] rfl)
set_option maxHeartbeats 4000000 in
set_option maxRecDepth 100000 in
theorem w_Mo_set_33 {p : Program} {l : Launch} {e : Env} {s : State} {m : MethodId} {args : Array Value} {below : List Frame} {meth : Method} {c : Code} {D : va_G} {A : Nat → Prop} {ad : Nat → Nat} {ca : Nat → ClassId} (o : (Int32 × z_Sg)) (C0 : z_cx z_RMo b_Mo_set 6 (some .boolean) D (z_Mt ca) A p s m args meth c) (q : z_Sg) (x1 : Int32) (x4 : Int64) (h : k_Mo_set_33 x1 x4 q = some o) : ∀ (H : Heap) (locs : List Loc) (ls : Array Slot), z_wd D (z_M ad ca q) A s H locs → lv_has ls 6 [(0, .ref (ad 0)), (1, .int x1), (4, .long x4)] → W p l e (z_rm 1 22) s m args below meth c H locs 0 0 (z_qi below D (z_Mt ca) (z_M ad ca o.2) A s args o.1) (F0 m 33 ls []) := by
  obtain ⟨hx, hb, hr, hlk, hml, hown, hts, hK, hA⟩ := id C0
  intro H locs ls hw hl
  refine lv_iload_n hx hb d_Mo_set_33 rfl (lv_at hl 1 rfl) ?_
  refine lv_bipush (v := (16 : Int32)) hx hb d_Mo_set_34 (by decide) ?_
  refine lv_icmp_ne (tgt := 45) hx hb d_Mo_set_36 (by decide) (fun c5 => ?_) (fun c5 => ?_)
  · have h := ok_f h c5
    exact w_Mo_set_45 o C0 q x1 x4 h H locs ls hw (lv_sub hl [0, 1, 2] rfl)
  · have h := ok_t h c5
    refine lv_aload_n hx hb d_Mo_set_39 rfl (lv_at hl 0 rfl) ?_
    refine lv_lload hx hb d_Mo_set_40 (lv_at hl 2 rfl) ?_
    refine pfM_0_next C0 hw fl_Mo_111 d_Mo_set_42 (fun H locs hw => ?_)
    obtain ⟨q16, eq16, h⟩ := ok_n h
    rw [← eq16] at hw
    exact w_Mo_set_45 o C0 q16 x1 x4 h H locs ls hw (lv_sub hl [0, 1, 2] rfl)
set_option maxHeartbeats 4000000 in
set_option maxRecDepth 100000 in
theorem c_Mo_set {l : Launch} {D : va_G} {ad : Nat → Nat} {ca : Nat → ClassId} (x1 : Int32) (x2 : Int32) (x3 : Int32) (q : z_Sg) (o : (Int32 × z_Sg)) (h : f_Mo_set x1 x2 x3 q = some o) : z_ci l y_Mo_set b_Mo_set 6 (some .boolean) 1 22 D (z_Mt ca) (z_M ad ca q) (z_M ad ca o.2) [.ref (ad 0), .int x1, .int x2, .int x3] o.1 := by
  refine z_ci_of (own := z_RMo) (by decide) rfl ?_
  intro p e s m below meth c A C0 hw
  obtain ⟨hx, hb, hr, hlk, hml, hown, hts, hK, hA⟩ := id C0
  generalize hH : s.heap = H at hw ⊢
  generalize hlo : ([] : List Loc) = locs at hw ⊢
  refine z_entry (lv := [(0, .ref (ad 0)), (1, .int x1), (2, .int x2), (3, .int x3)]) (Nat.le_of_ble_eq_true rfl) rfl (fun ls hl => ?_)
  unfold f_Mo_set at h
  refine lv_iload_n hx hb d_Mo_set_0 rfl (lv_at hl 2 rfl) ?_
  refine lv_iload_n hx hb d_Mo_set_1 rfl (lv_at hl 3 rfl) ?_
  obtain ⟨r1, er1, h⟩ := ok_b h
  refine z_sl (rest := []) C0 hw (c_Mo_join x2 x3 q r1 er1) mw_Mo_join ml_Mo_461 ⟨Nat.le_of_ble_eq_true rfl, Nat.le_of_ble_eq_true rfl⟩ ⟨Nat.le_refl 0, Nat.le_refl 0⟩ rfl hl.1 rfl (Nat.le_of_ble_eq_true rfl) d_Mo_set_2 (fun H locs hw => ?_)
  refine lv_lstore (lv' := [(4, .long r1), (0, .ref (ad 0)), (1, .int x1), (2, .int x2), (3, .int x3)]) hx hb d_Mo_set_5 hl (by decide) rfl (fun ls hl => ?_)
  refine lv_iload_n hx hb d_Mo_set_7 rfl (lv_at hl 2 rfl) ?_
  refine lv_if_lt (tgt := 17) hx hb d_Mo_set_8 (by decide) (fun c2 => ?_) (fun c2 => ?_)
  · have h := ok_t h c2
    exact w_Mo_set_17 o C0 q h H locs ls hw (lv_sub hl [] rfl)
  · have h := ok_f h c2
    refine lv_iload_n hx hb d_Mo_set_11 rfl (lv_at hl 2 rfl) ?_
    refine lv_bipush (v := (21 : Int32)) hx hb d_Mo_set_12 (by decide) ?_
    refine lv_icmp_le (tgt := 19) hx hb d_Mo_set_14 (by decide) (fun c3 => ?_) (fun c3 => ?_)
    · have h := ok_t h c3
      refine lv_iload_n hx hb d_Mo_set_19 rfl (lv_at hl 2 rfl) ?_
      refine lv_bipush (v := (16 : Int32)) hx hb d_Mo_set_20 (by decide) ?_
      refine lv_icmp_ge (tgt := 33) hx hb d_Mo_set_22 (by decide) (fun c4 => ?_) (fun c4 => ?_)
      · have h := ok_t h c4
        exact w_Mo_set_33 o C0 q x1 r1 h H locs ls hw (lv_sub hl [1, 2, 0] rfl)
      · have h := ok_f h c4
        refine lv_aload_n hx hb d_Mo_set_25 rfl (lv_at hl 1 rfl) ?_
        refine gfM_0_r C0 hw fl_Mo_14 d_Mo_set_26 ?_
        refine lv_iload_n hx hb d_Mo_set_29 rfl (lv_at hl 2 rfl) ?_
        refine lv_lload hx hb d_Mo_set_30 (lv_at hl 0 rfl) ?_
        obtain ⟨b17, h⟩ := ok_g h
        refine asM_2 C0 hw b17 d_Mo_set_32 (fun H locs hw => ?_)
        obtain ⟨q18, eq18, h⟩ := ok_n h
        rw [← eq18] at hw
        exact w_Mo_set_33 o C0 q18 x1 r1 h H locs ls hw (lv_sub hl [1, 2, 0] rfl)
    · have h := ok_f h c3
      exact w_Mo_set_17 o C0 q h H locs ls hw (lv_sub hl [] rfl)
def k_Mo_flags_116 (t0 : Int64) (t1 : Int64) (q : z_Sg) : Option Int64 :=
  some (t0 + t1)
def k_Mo_flags_98 (t0 : Int64) (t1 : Int64) (q : z_Sg) : Option Int64 :=
  if z_bad (6 : Int32) 7 then none else (if (z_gN q 1 (6 : Int32).toNatClampNeg) = 0 then (k_Mo_flags_116 (t0 + t1) (0 : Int64) q) else (k_Mo_flags_116 (t0 + t1) (2048 : Int64) q))
def k_Mo_flags_81 (t0 : Int64) (t1 : Int64) (q : z_Sg) : Option Int64 :=
  if z_bad (5 : Int32) 7 then none else (if (z_gN q 1 (5 : Int32).toNatClampNeg) = 0 then (k_Mo_flags_98 (t0 + t1) (0 : Int64) q) else (k_Mo_flags_98 (t0 + t1) (1024 : Int64) q))
def k_Mo_flags_64 (t0 : Int64) (t1 : Int64) (q : z_Sg) : Option Int64 :=
  if z_bad (4 : Int32) 7 then none else (if (z_gN q 1 (4 : Int32).toNatClampNeg) = 0 then (k_Mo_flags_81 (t0 + t1) (0 : Int64) q) else (k_Mo_flags_81 (t0 + t1) (128 : Int64) q))
def k_Mo_flags_47 (t0 : Int64) (t1 : Int64) (q : z_Sg) : Option Int64 :=
  if z_bad (3 : Int32) 7 then none else (if (z_gN q 1 (3 : Int32).toNatClampNeg) = 0 then (k_Mo_flags_64 (t0 + t1) (0 : Int64) q) else (k_Mo_flags_64 (t0 + t1) (64 : Int64) q))
def k_Mo_flags_30 (t0 : Int64) (t1 : Int64) (q : z_Sg) : Option Int64 :=
  if z_bad (2 : Int32) 7 then none else (if (z_gN q 1 (2 : Int32).toNatClampNeg) = 0 then (k_Mo_flags_47 (t0 + t1) (0 : Int64) q) else (k_Mo_flags_47 (t0 + t1) (16 : Int64) q))
def k_Mo_flags_14 (t0 : Int64) (q : z_Sg) : Option Int64 :=
  if z_bad (1 : Int32) 7 then none else (if (z_gN q 1 (1 : Int32).toNatClampNeg) = 0 then (k_Mo_flags_30 t0 (0 : Int64) q) else (k_Mo_flags_30 t0 (4 : Int64) q))
def f_Mo_flags (q : z_Sg) : Option Int64 :=
  if z_bad (0 : Int32) 7 then none else (if (z_gN q 1 (0 : Int32).toNatClampNeg) = 0 then (k_Mo_flags_14 (0 : Int64) q) else (k_Mo_flags_14 (1 : Int64) q))
set_option maxHeartbeats 4000000 in
set_option maxRecDepth 100000 in
theorem w_Mo_flags_116 {p : Program} {l : Launch} {e : Env} {s : State} {m : MethodId} {args : Array Value} {below : List Frame} {meth : Method} {c : Code} {D : va_G} {A : Nat → Prop} {ad : Nat → Nat} {ca : Nat → ClassId} (o : Int64) (C0 : z_cx z_RMo b_Mo_flags 1 (some .long) D (z_Mt ca) A p s m args meth c) (q : z_Sg) (t0 : Int64) (t1 : Int64) (h : k_Mo_flags_116 t0 t1 q = some o) : ∀ (H : Heap) (locs : List Loc) (ls : Array Slot), z_wd D (z_M ad ca q) A s H locs → lv_has ls 1 [] → W p l e (z_rm 0 0) s m args below meth c H locs 0 0 (z_ql below D (z_Mt ca) (z_M ad ca q) A s args o) (F0 m 116 ls [.long t1, .long t0]) := by
  obtain ⟨hx, hb, hr, hlk, hml, hown, hts, hK, hA⟩ := id C0
  intro H locs ls hw hl
  refine lv_ladd hx hb d_Mo_flags_116 ?_
  have ho := Option.some.inj h
  subst ho
  exact z_rtl C0 hw d_Mo_flags_117
set_option maxHeartbeats 4000000 in
set_option maxRecDepth 100000 in
theorem w_Mo_flags_98 {p : Program} {l : Launch} {e : Env} {s : State} {m : MethodId} {args : Array Value} {below : List Frame} {meth : Method} {c : Code} {D : va_G} {A : Nat → Prop} {ad : Nat → Nat} {ca : Nat → ClassId} (o : Int64) (C0 : z_cx z_RMo b_Mo_flags 1 (some .long) D (z_Mt ca) A p s m args meth c) (q : z_Sg) (t0 : Int64) (t1 : Int64) (h : k_Mo_flags_98 t0 t1 q = some o) : ∀ (H : Heap) (locs : List Loc) (ls : Array Slot), z_wd D (z_M ad ca q) A s H locs → lv_has ls 1 [(0, .ref (ad 0))] → W p l e (z_rm 0 0) s m args below meth c H locs 0 0 (z_ql below D (z_Mt ca) (z_M ad ca q) A s args o) (F0 m 98 ls [.long t1, .long t0]) := by
  obtain ⟨hx, hb, hr, hlk, hml, hown, hts, hK, hA⟩ := id C0
  intro H locs ls hw hl
  refine lv_ladd hx hb d_Mo_flags_98 ?_
  refine lv_aload_n hx hb d_Mo_flags_99 rfl (lv_at hl 0 rfl) ?_
  refine gfM_0_flag C0 hw fl_Mo_21 d_Mo_flags_100 ?_
  refine lv_bipush (v := (6 : Int32)) hx hb d_Mo_flags_103 (by decide) ?_
  obtain ⟨b13, h⟩ := ok_g h
  refine alM_4 C0 hw b13 d_Mo_flags_105 ?_
  refine lv_if_eq (tgt := 115) hx hb d_Mo_flags_106 (by decide) (fun c14 => ?_) (fun c14 => ?_)
  · have h := ok_t h c14
    refine lv_lconst (v := (0 : Int64)) hx hb d_Mo_flags_115 (by decide) ?_
    exact w_Mo_flags_116 o C0 q (t0 + t1) (0 : Int64) h H locs ls hw (lv_sub hl [] rfl)
  · have h := ok_f h c14
    refine lv_ldc2 (own := z_RMo) hx hb hown (hts _ kl_Mo_457) d_Mo_flags_109 ?_
    refine lv_goto (tgt := 116) hx hb d_Mo_flags_112 (by decide) ?_
    exact w_Mo_flags_116 o C0 q (t0 + t1) (2048 : Int64) h H locs ls hw (lv_sub hl [] rfl)
set_option maxHeartbeats 4000000 in
set_option maxRecDepth 100000 in
theorem w_Mo_flags_81 {p : Program} {l : Launch} {e : Env} {s : State} {m : MethodId} {args : Array Value} {below : List Frame} {meth : Method} {c : Code} {D : va_G} {A : Nat → Prop} {ad : Nat → Nat} {ca : Nat → ClassId} (o : Int64) (C0 : z_cx z_RMo b_Mo_flags 1 (some .long) D (z_Mt ca) A p s m args meth c) (q : z_Sg) (t0 : Int64) (t1 : Int64) (h : k_Mo_flags_81 t0 t1 q = some o) : ∀ (H : Heap) (locs : List Loc) (ls : Array Slot), z_wd D (z_M ad ca q) A s H locs → lv_has ls 1 [(0, .ref (ad 0))] → W p l e (z_rm 0 0) s m args below meth c H locs 0 0 (z_ql below D (z_Mt ca) (z_M ad ca q) A s args o) (F0 m 81 ls [.long t1, .long t0]) := by
  obtain ⟨hx, hb, hr, hlk, hml, hown, hts, hK, hA⟩ := id C0
  intro H locs ls hw hl
  refine lv_ladd hx hb d_Mo_flags_81 ?_
  refine lv_aload_n hx hb d_Mo_flags_82 rfl (lv_at hl 0 rfl) ?_
  refine gfM_0_flag C0 hw fl_Mo_21 d_Mo_flags_83 ?_
  refine lv_iconst (v := (5 : Int32)) hx hb d_Mo_flags_86 (by decide) ?_
  obtain ⟨b11, h⟩ := ok_g h
  refine alM_4 C0 hw b11 d_Mo_flags_87 ?_
  refine lv_if_eq (tgt := 97) hx hb d_Mo_flags_88 (by decide) (fun c12 => ?_) (fun c12 => ?_)
  · have h := ok_t h c12
    refine lv_lconst (v := (0 : Int64)) hx hb d_Mo_flags_97 (by decide) ?_
    exact w_Mo_flags_98 o C0 q (t0 + t1) (0 : Int64) h H locs ls hw (lv_sub hl [0] rfl)
  · have h := ok_f h c12
    refine lv_ldc2 (own := z_RMo) hx hb hown (hts _ kl_Mo_455) d_Mo_flags_91 ?_
    refine lv_goto (tgt := 98) hx hb d_Mo_flags_94 (by decide) ?_
    exact w_Mo_flags_98 o C0 q (t0 + t1) (1024 : Int64) h H locs ls hw (lv_sub hl [0] rfl)
set_option maxHeartbeats 4000000 in
set_option maxRecDepth 100000 in
theorem w_Mo_flags_64 {p : Program} {l : Launch} {e : Env} {s : State} {m : MethodId} {args : Array Value} {below : List Frame} {meth : Method} {c : Code} {D : va_G} {A : Nat → Prop} {ad : Nat → Nat} {ca : Nat → ClassId} (o : Int64) (C0 : z_cx z_RMo b_Mo_flags 1 (some .long) D (z_Mt ca) A p s m args meth c) (q : z_Sg) (t0 : Int64) (t1 : Int64) (h : k_Mo_flags_64 t0 t1 q = some o) : ∀ (H : Heap) (locs : List Loc) (ls : Array Slot), z_wd D (z_M ad ca q) A s H locs → lv_has ls 1 [(0, .ref (ad 0))] → W p l e (z_rm 0 0) s m args below meth c H locs 0 0 (z_ql below D (z_Mt ca) (z_M ad ca q) A s args o) (F0 m 64 ls [.long t1, .long t0]) := by
  obtain ⟨hx, hb, hr, hlk, hml, hown, hts, hK, hA⟩ := id C0
  intro H locs ls hw hl
  refine lv_ladd hx hb d_Mo_flags_64 ?_
  refine lv_aload_n hx hb d_Mo_flags_65 rfl (lv_at hl 0 rfl) ?_
  refine gfM_0_flag C0 hw fl_Mo_21 d_Mo_flags_66 ?_
  refine lv_iconst (v := (4 : Int32)) hx hb d_Mo_flags_69 (by decide) ?_
  obtain ⟨b9, h⟩ := ok_g h
  refine alM_4 C0 hw b9 d_Mo_flags_70 ?_
  refine lv_if_eq (tgt := 80) hx hb d_Mo_flags_71 (by decide) (fun c10 => ?_) (fun c10 => ?_)
  · have h := ok_t h c10
    refine lv_lconst (v := (0 : Int64)) hx hb d_Mo_flags_80 (by decide) ?_
    exact w_Mo_flags_81 o C0 q (t0 + t1) (0 : Int64) h H locs ls hw (lv_sub hl [0] rfl)
  · have h := ok_f h c10
    refine lv_ldc2 (own := z_RMo) hx hb hown (hts _ kl_Mo_66) d_Mo_flags_74 ?_
    refine lv_goto (tgt := 81) hx hb d_Mo_flags_77 (by decide) ?_
    exact w_Mo_flags_81 o C0 q (t0 + t1) (128 : Int64) h H locs ls hw (lv_sub hl [0] rfl)
set_option maxHeartbeats 4000000 in
set_option maxRecDepth 100000 in
theorem w_Mo_flags_47 {p : Program} {l : Launch} {e : Env} {s : State} {m : MethodId} {args : Array Value} {below : List Frame} {meth : Method} {c : Code} {D : va_G} {A : Nat → Prop} {ad : Nat → Nat} {ca : Nat → ClassId} (o : Int64) (C0 : z_cx z_RMo b_Mo_flags 1 (some .long) D (z_Mt ca) A p s m args meth c) (q : z_Sg) (t0 : Int64) (t1 : Int64) (h : k_Mo_flags_47 t0 t1 q = some o) : ∀ (H : Heap) (locs : List Loc) (ls : Array Slot), z_wd D (z_M ad ca q) A s H locs → lv_has ls 1 [(0, .ref (ad 0))] → W p l e (z_rm 0 0) s m args below meth c H locs 0 0 (z_ql below D (z_Mt ca) (z_M ad ca q) A s args o) (F0 m 47 ls [.long t1, .long t0]) := by
  obtain ⟨hx, hb, hr, hlk, hml, hown, hts, hK, hA⟩ := id C0
  intro H locs ls hw hl
  refine lv_ladd hx hb d_Mo_flags_47 ?_
  refine lv_aload_n hx hb d_Mo_flags_48 rfl (lv_at hl 0 rfl) ?_
  refine gfM_0_flag C0 hw fl_Mo_21 d_Mo_flags_49 ?_
  refine lv_iconst (v := (3 : Int32)) hx hb d_Mo_flags_52 (by decide) ?_
  obtain ⟨b7, h⟩ := ok_g h
  refine alM_4 C0 hw b7 d_Mo_flags_53 ?_
  refine lv_if_eq (tgt := 63) hx hb d_Mo_flags_54 (by decide) (fun c8 => ?_) (fun c8 => ?_)
  · have h := ok_t h c8
    refine lv_lconst (v := (0 : Int64)) hx hb d_Mo_flags_63 (by decide) ?_
    exact w_Mo_flags_64 o C0 q (t0 + t1) (0 : Int64) h H locs ls hw (lv_sub hl [0] rfl)
  · have h := ok_f h c8
    refine lv_ldc2 (own := z_RMo) hx hb hown (hts _ kl_Mo_453) d_Mo_flags_57 ?_
    refine lv_goto (tgt := 64) hx hb d_Mo_flags_60 (by decide) ?_
    exact w_Mo_flags_64 o C0 q (t0 + t1) (64 : Int64) h H locs ls hw (lv_sub hl [0] rfl)
set_option maxHeartbeats 4000000 in
set_option maxRecDepth 100000 in
theorem w_Mo_flags_30 {p : Program} {l : Launch} {e : Env} {s : State} {m : MethodId} {args : Array Value} {below : List Frame} {meth : Method} {c : Code} {D : va_G} {A : Nat → Prop} {ad : Nat → Nat} {ca : Nat → ClassId} (o : Int64) (C0 : z_cx z_RMo b_Mo_flags 1 (some .long) D (z_Mt ca) A p s m args meth c) (q : z_Sg) (t0 : Int64) (t1 : Int64) (h : k_Mo_flags_30 t0 t1 q = some o) : ∀ (H : Heap) (locs : List Loc) (ls : Array Slot), z_wd D (z_M ad ca q) A s H locs → lv_has ls 1 [(0, .ref (ad 0))] → W p l e (z_rm 0 0) s m args below meth c H locs 0 0 (z_ql below D (z_Mt ca) (z_M ad ca q) A s args o) (F0 m 30 ls [.long t1, .long t0]) := by
  obtain ⟨hx, hb, hr, hlk, hml, hown, hts, hK, hA⟩ := id C0
  intro H locs ls hw hl
  refine lv_ladd hx hb d_Mo_flags_30 ?_
  refine lv_aload_n hx hb d_Mo_flags_31 rfl (lv_at hl 0 rfl) ?_
  refine gfM_0_flag C0 hw fl_Mo_21 d_Mo_flags_32 ?_
  refine lv_iconst (v := (2 : Int32)) hx hb d_Mo_flags_35 (by decide) ?_
  obtain ⟨b5, h⟩ := ok_g h
  refine alM_4 C0 hw b5 d_Mo_flags_36 ?_
  refine lv_if_eq (tgt := 46) hx hb d_Mo_flags_37 (by decide) (fun c6 => ?_) (fun c6 => ?_)
  · have h := ok_t h c6
    refine lv_lconst (v := (0 : Int64)) hx hb d_Mo_flags_46 (by decide) ?_
    exact w_Mo_flags_47 o C0 q (t0 + t1) (0 : Int64) h H locs ls hw (lv_sub hl [0] rfl)
  · have h := ok_f h c6
    refine lv_ldc2 (own := z_RMo) hx hb hown (hts _ kl_Mo_451) d_Mo_flags_40 ?_
    refine lv_goto (tgt := 47) hx hb d_Mo_flags_43 (by decide) ?_
    exact w_Mo_flags_47 o C0 q (t0 + t1) (16 : Int64) h H locs ls hw (lv_sub hl [0] rfl)
set_option maxHeartbeats 4000000 in
set_option maxRecDepth 100000 in
theorem w_Mo_flags_14 {p : Program} {l : Launch} {e : Env} {s : State} {m : MethodId} {args : Array Value} {below : List Frame} {meth : Method} {c : Code} {D : va_G} {A : Nat → Prop} {ad : Nat → Nat} {ca : Nat → ClassId} (o : Int64) (C0 : z_cx z_RMo b_Mo_flags 1 (some .long) D (z_Mt ca) A p s m args meth c) (q : z_Sg) (t0 : Int64) (h : k_Mo_flags_14 t0 q = some o) : ∀ (H : Heap) (locs : List Loc) (ls : Array Slot), z_wd D (z_M ad ca q) A s H locs → lv_has ls 1 [(0, .ref (ad 0))] → W p l e (z_rm 0 0) s m args below meth c H locs 0 0 (z_ql below D (z_Mt ca) (z_M ad ca q) A s args o) (F0 m 14 ls [.long t0]) := by
  obtain ⟨hx, hb, hr, hlk, hml, hown, hts, hK, hA⟩ := id C0
  intro H locs ls hw hl
  refine lv_aload_n hx hb d_Mo_flags_14 rfl (lv_at hl 0 rfl) ?_
  refine gfM_0_flag C0 hw fl_Mo_21 d_Mo_flags_15 ?_
  refine lv_iconst (v := (1 : Int32)) hx hb d_Mo_flags_18 (by decide) ?_
  obtain ⟨b3, h⟩ := ok_g h
  refine alM_4 C0 hw b3 d_Mo_flags_19 ?_
  refine lv_if_eq (tgt := 29) hx hb d_Mo_flags_20 (by decide) (fun c4 => ?_) (fun c4 => ?_)
  · have h := ok_t h c4
    refine lv_lconst (v := (0 : Int64)) hx hb d_Mo_flags_29 (by decide) ?_
    exact w_Mo_flags_30 o C0 q t0 (0 : Int64) h H locs ls hw (lv_sub hl [0] rfl)
  · have h := ok_f h c4
    refine lv_ldc2 (own := z_RMo) hx hb hown (hts _ kl_Mo_75) d_Mo_flags_23 ?_
    refine lv_goto (tgt := 30) hx hb d_Mo_flags_26 (by decide) ?_
    exact w_Mo_flags_30 o C0 q t0 (4 : Int64) h H locs ls hw (lv_sub hl [0] rfl)
set_option maxHeartbeats 4000000 in
set_option maxRecDepth 100000 in
theorem c_Mo_flags {l : Launch} {D : va_G} {ad : Nat → Nat} {ca : Nat → ClassId} (q : z_Sg) (o : Int64) (h : f_Mo_flags q = some o) : z_cl l y_Mo_flags b_Mo_flags 1 (some .long) 0 0 D (z_Mt ca) (z_M ad ca q) (z_M ad ca q) [.ref (ad 0)] o := by
  refine z_cl_of (own := z_RMo) (by decide) rfl ?_
  intro p e s m below meth c A C0 hw
  obtain ⟨hx, hb, hr, hlk, hml, hown, hts, hK, hA⟩ := id C0
  generalize hH : s.heap = H at hw ⊢
  generalize hlo : ([] : List Loc) = locs at hw ⊢
  refine z_entry (lv := [(0, .ref (ad 0))]) (Nat.le_of_ble_eq_true rfl) rfl (fun ls hl => ?_)
  unfold f_Mo_flags at h
  refine lv_aload_n hx hb d_Mo_flags_0 rfl (lv_at hl 0 rfl) ?_
  refine gfM_0_flag C0 hw fl_Mo_21 d_Mo_flags_1 ?_
  refine lv_iconst (v := (0 : Int32)) hx hb d_Mo_flags_4 (by decide) ?_
  obtain ⟨b1, h⟩ := ok_g h
  refine alM_4 C0 hw b1 d_Mo_flags_5 ?_
  refine lv_if_eq (tgt := 13) hx hb d_Mo_flags_6 (by decide) (fun c2 => ?_) (fun c2 => ?_)
  · have h := ok_t h c2
    refine lv_lconst (v := (0 : Int64)) hx hb d_Mo_flags_13 (by decide) ?_
    exact w_Mo_flags_14 o C0 q (0 : Int64) h H locs ls hw (lv_sub hl [0] rfl)
  · have h := ok_f h c2
    refine lv_lconst (v := (1 : Int64)) hx hb d_Mo_flags_9 (by decide) ?_
    refine lv_goto (tgt := 14) hx hb d_Mo_flags_10 (by decide) ?_
    exact w_Mo_flags_14 o C0 q (1 : Int64) h H locs ls hw (lv_sub hl [0] rfl)
def k_Mo_get_10 (q : z_Sg) : Option Int64 :=
  some (0 : Int64)
def k_Mo_get_127 (t0 : Int64) (q : z_Sg) : Option Int64 :=
  some t0
def f_Mo_get (x1 : Int32) (q : z_Sg) : Option Int64 :=
  if x1 < 0 then (k_Mo_get_10 q) else (if x1 ≤ (24 : Int32) then (if (16 : Int32) ≤ x1 then (if x1 = (16 : Int32) then (some (z_gL q 0)) else (if x1 = (17 : Int32) then (some (z_gL q 1)) else (if x1 = (18 : Int32) then (some (z_gL q 2)) else (if x1 = (19 : Int32) then (some (z_gL q 3)) else (if x1 = (20 : Int32) then ((f_Mo_flags q).bind (fun r9 => some r9)) else (if x1 = (21 : Int32) then (some (z_gL q 4)) else (if x1 = (22 : Int32) then (some (z_gL q 5)) else (if x1 = (23 : Int32) then (some ((z_gI q 0).toInt64)) else (if (z_gI q 2) = 0 then (k_Mo_get_127 (0 : Int64) q) else (k_Mo_get_127 (3 : Int64) q)))))))))) else (if z_bad x1 16 then none else (some (z_gM q 0 x1.toNatClampNeg)))) else (k_Mo_get_10 q))
set_option maxHeartbeats 4000000 in
set_option maxRecDepth 100000 in
theorem w_Mo_get_10 {p : Program} {l : Launch} {e : Env} {s : State} {m : MethodId} {args : Array Value} {below : List Frame} {meth : Method} {c : Code} {D : va_G} {A : Nat → Prop} {ad : Nat → Nat} {ca : Nat → ClassId} (o : Int64) (C0 : z_cx z_RMo b_Mo_get 2 (some .long) D (z_Mt ca) A p s m args meth c) (q : z_Sg) (h : k_Mo_get_10 q = some o) : ∀ (H : Heap) (locs : List Loc) (ls : Array Slot), z_wd D (z_M ad ca q) A s H locs → lv_has ls 2 [] → W p l e (z_rm 1 20) s m args below meth c H locs 0 0 (z_ql below D (z_Mt ca) (z_M ad ca q) A s args o) (F0 m 10 ls []) := by
  obtain ⟨hx, hb, hr, hlk, hml, hown, hts, hK, hA⟩ := id C0
  intro H locs ls hw hl
  refine lv_lconst (v := (0 : Int64)) hx hb d_Mo_get_10 (by decide) ?_
  have ho := Option.some.inj h
  subst ho
  exact z_rtl C0 hw d_Mo_get_11
set_option maxHeartbeats 4000000 in
set_option maxRecDepth 100000 in
theorem w_Mo_get_127 {p : Program} {l : Launch} {e : Env} {s : State} {m : MethodId} {args : Array Value} {below : List Frame} {meth : Method} {c : Code} {D : va_G} {A : Nat → Prop} {ad : Nat → Nat} {ca : Nat → ClassId} (o : Int64) (C0 : z_cx z_RMo b_Mo_get 2 (some .long) D (z_Mt ca) A p s m args meth c) (q : z_Sg) (t0 : Int64) (h : k_Mo_get_127 t0 q = some o) : ∀ (H : Heap) (locs : List Loc) (ls : Array Slot), z_wd D (z_M ad ca q) A s H locs → lv_has ls 2 [] → W p l e (z_rm 1 20) s m args below meth c H locs 0 0 (z_ql below D (z_Mt ca) (z_M ad ca q) A s args o) (F0 m 127 ls [.long t0]) := by
  obtain ⟨hx, hb, hr, hlk, hml, hown, hts, hK, hA⟩ := id C0
  intro H locs ls hw hl
  have ho := Option.some.inj h
  subst ho
  exact z_rtl C0 hw d_Mo_get_127
set_option maxHeartbeats 4000000 in
set_option maxRecDepth 100000 in
theorem c_Mo_get {l : Launch} {D : va_G} {ad : Nat → Nat} {ca : Nat → ClassId} (x1 : Int32) (q : z_Sg) (o : Int64) (h : f_Mo_get x1 q = some o) : z_cl l y_Mo_get b_Mo_get 2 (some .long) 1 20 D (z_Mt ca) (z_M ad ca q) (z_M ad ca q) [.ref (ad 0), .int x1] o := by
  refine z_cl_of (own := z_RMo) (by decide) rfl ?_
  intro p e s m below meth c A C0 hw
  obtain ⟨hx, hb, hr, hlk, hml, hown, hts, hK, hA⟩ := id C0
  generalize hH : s.heap = H at hw ⊢
  generalize hlo : ([] : List Loc) = locs at hw ⊢
  refine z_entry (lv := [(0, .ref (ad 0)), (1, .int x1)]) (Nat.le_of_ble_eq_true rfl) rfl (fun ls hl => ?_)
  unfold f_Mo_get at h
  refine lv_iload_n hx hb d_Mo_get_0 rfl (lv_at hl 1 rfl) ?_
  refine lv_if_lt (tgt := 10) hx hb d_Mo_get_1 (by decide) (fun c1 => ?_) (fun c1 => ?_)
  · have h := ok_t h c1
    exact w_Mo_get_10 o C0 q h H locs ls hw (lv_sub hl [] rfl)
  · have h := ok_f h c1
    refine lv_iload_n hx hb d_Mo_get_4 rfl (lv_at hl 1 rfl) ?_
    refine lv_bipush (v := (24 : Int32)) hx hb d_Mo_get_5 (by decide) ?_
    refine lv_icmp_le (tgt := 12) hx hb d_Mo_get_7 (by decide) (fun c2 => ?_) (fun c2 => ?_)
    · have h := ok_t h c2
      refine lv_iload_n hx hb d_Mo_get_12 rfl (lv_at hl 1 rfl) ?_
      refine lv_bipush (v := (16 : Int32)) hx hb d_Mo_get_13 (by decide) ?_
      refine lv_icmp_ge (tgt := 25) hx hb d_Mo_get_15 (by decide) (fun c3 => ?_) (fun c3 => ?_)
      · have h := ok_t h c3
        refine lv_iload_n hx hb d_Mo_get_25 rfl (lv_at hl 1 rfl) ?_
        by_cases c4 : x1 = (16 : Int32)
        · have h := ok_t h c4
          refine lv_tableIn (off := 46) (tgt := 72) hx hb d_Mo_get_26 (by rw [c4]; decide) (by rw [c4]; decide) (by rw [c4]; rfl) (by decide) ?_
          refine lv_aload_n hx hb d_Mo_get_72 rfl (lv_at hl 0 rfl) ?_
          refine gfM_0_next C0 hw fl_Mo_111 d_Mo_get_73 ?_
          have ho := Option.some.inj h
          subst ho
          exact z_rtl C0 hw d_Mo_get_76
        have h := ok_f h c4
        by_cases c5 : x1 = (17 : Int32)
        · have h := ok_t h c5
          refine lv_tableIn (off := 51) (tgt := 77) hx hb d_Mo_get_26 (by rw [c5]; decide) (by rw [c5]; decide) (by rw [c5]; rfl) (by decide) ?_
          refine lv_aload_n hx hb d_Mo_get_77 rfl (lv_at hl 0 rfl) ?_
          refine gfM_0_table C0 hw fl_Mo_52 d_Mo_get_78 ?_
          have ho := Option.some.inj h
          subst ho
          exact z_rtl C0 hw d_Mo_get_81
        have h := ok_f h c5
        by_cases c6 : x1 = (18 : Int32)
        · have h := ok_t h c6
          refine lv_tableIn (off := 56) (tgt := 82) hx hb d_Mo_get_26 (by rw [c6]; decide) (by rw [c6]; decide) (by rw [c6]; rfl) (by decide) ?_
          refine lv_aload_n hx hb d_Mo_get_82 rfl (lv_at hl 0 rfl) ?_
          refine gfM_0_entryPlace C0 hw fl_Mo_445 d_Mo_get_83 ?_
          have ho := Option.some.inj h
          subst ho
          exact z_rtl C0 hw d_Mo_get_86
        have h := ok_f h c6
        by_cases c7 : x1 = (19 : Int32)
        · have h := ok_t h c7
          refine lv_tableIn (off := 61) (tgt := 87) hx hb d_Mo_get_26 (by rw [c7]; decide) (by rw [c7]; decide) (by rw [c7]; rfl) (by decide) ?_
          refine lv_aload_n hx hb d_Mo_get_87 rfl (lv_at hl 0 rfl) ?_
          refine gfM_0_mask C0 hw fl_Mo_448 d_Mo_get_88 ?_
          have ho := Option.some.inj h
          subst ho
          exact z_rtl C0 hw d_Mo_get_91
        have h := ok_f h c7
        by_cases c8 : x1 = (20 : Int32)
        · have h := ok_t h c8
          refine lv_tableIn (off := 66) (tgt := 92) hx hb d_Mo_get_26 (by rw [c8]; decide) (by rw [c8]; decide) (by rw [c8]; rfl) (by decide) ?_
          refine lv_aload_n hx hb d_Mo_get_92 rfl (lv_at hl 0 rfl) ?_
          obtain ⟨r9, er9, h⟩ := ok_b h
          refine z_vl (rest := []) C0 hw (c_Mo_flags q r9 er9) mw_Mo_flags ml_Mo_304 0 rfl ⟨Nat.le_of_ble_eq_true rfl, Nat.le_of_ble_eq_true rfl⟩ ⟨Nat.le_refl 0, Nat.le_refl 0⟩ rfl hl.1 rfl (Nat.le_of_ble_eq_true rfl) d_Mo_get_93 (fun H locs hw => ?_)
          have ho := Option.some.inj h
          subst ho
          exact z_rtl C0 hw d_Mo_get_96
        have h := ok_f h c8
        by_cases c10 : x1 = (21 : Int32)
        · have h := ok_t h c10
          refine lv_tableIn (off := 71) (tgt := 97) hx hb d_Mo_get_26 (by rw [c10]; decide) (by rw [c10]; decide) (by rw [c10]; rfl) (by decide) ?_
          refine lv_aload_n hx hb d_Mo_get_97 rfl (lv_at hl 0 rfl) ?_
          refine gfM_0_undefined C0 hw fl_Mo_205 d_Mo_get_98 ?_
          have ho := Option.some.inj h
          subst ho
          exact z_rtl C0 hw d_Mo_get_101
        have h := ok_f h c10
        by_cases c11 : x1 = (22 : Int32)
        · have h := ok_t h c11
          refine lv_tableIn (off := 76) (tgt := 102) hx hb d_Mo_get_26 (by rw [c11]; decide) (by rw [c11]; decide) (by rw [c11]; rfl) (by decide) ?_
          refine lv_aload_n hx hb d_Mo_get_102 rfl (lv_at hl 0 rfl) ?_
          refine gfM_0_fault C0 hw fl_Mo_89 d_Mo_get_103 ?_
          have ho := Option.some.inj h
          subst ho
          exact z_rtl C0 hw d_Mo_get_106
        have h := ok_f h c11
        by_cases c12 : x1 = (23 : Int32)
        · have h := ok_t h c12
          refine lv_tableIn (off := 81) (tgt := 107) hx hb d_Mo_get_26 (by rw [c12]; decide) (by rw [c12]; decide) (by rw [c12]; rfl) (by decide) ?_
          refine lv_aload_n hx hb d_Mo_get_107 rfl (lv_at hl 0 rfl) ?_
          refine gfM_0_code C0 hw fl_Mo_92 d_Mo_get_108 ?_
          refine lv_i2l hx hb d_Mo_get_111 rfl ?_
          have ho := Option.some.inj h
          subst ho
          exact z_rtl C0 hw d_Mo_get_112
        have h := ok_f h c12
        refine lv_tableOut (tgt := 113) hx hb d_Mo_get_26 (by have zc4 := lv_neT c4 (a := 16) rfl; have zc5 := lv_neT c5 (a := 17) rfl; have zc6 := lv_neT c6 (a := 18) rfl; have zc7 := lv_neT c7 (a := 19) rfl; have zc8 := lv_neT c8 (a := 20) rfl; have zc10 := lv_neT c10 (a := 21) rfl; have zc11 := lv_neT c11 (a := 22) rfl; have zc12 := lv_neT c12 (a := 23) rfl; omega) (by decide) ?_
        refine lv_aload_n hx hb d_Mo_get_113 rfl (lv_at hl 0 rfl) ?_
        refine gfM_0_user C0 hw fl_Mo_48 d_Mo_get_114 ?_
        refine lv_if_eq (tgt := 126) hx hb d_Mo_get_117 (by decide) (fun c13 => ?_) (fun c13 => ?_)
        · have h := ok_t h c13
          refine lv_lconst (v := (0 : Int64)) hx hb d_Mo_get_126 (by decide) ?_
          exact w_Mo_get_127 o C0 q (0 : Int64) h H locs ls hw (lv_sub hl [] rfl)
        · have h := ok_f h c13
          refine lv_ldc2 (own := z_RMo) hx hb hown (hts _ kl_Mo_464) d_Mo_get_120 ?_
          refine lv_goto (tgt := 127) hx hb d_Mo_get_123 (by decide) ?_
          exact w_Mo_get_127 o C0 q (3 : Int64) h H locs ls hw (lv_sub hl [] rfl)
      · have h := ok_f h c3
        refine lv_aload_n hx hb d_Mo_get_18 rfl (lv_at hl 0 rfl) ?_
        refine gfM_0_r C0 hw fl_Mo_14 d_Mo_get_19 ?_
        refine lv_iload_n hx hb d_Mo_get_22 rfl (lv_at hl 1 rfl) ?_
        obtain ⟨b14, h⟩ := ok_g h
        refine alM_2 C0 hw b14 d_Mo_get_23 ?_
        have ho := Option.some.inj h
        subst ho
        exact z_rtl C0 hw d_Mo_get_24
    · have h := ok_f h c2
      exact w_Mo_get_10 o C0 q h H locs ls hw (lv_sub hl [] rfl)
def f_Mo_level (x1 : Int32) (q : z_Sg) : Option z_Sg :=
  z_gd (z_bo x1) (z_nm (z_sI q 2 x1) (fun q2 => some q2))
set_option maxHeartbeats 4000000 in
set_option maxRecDepth 100000 in
theorem c_Mo_level {l : Launch} {D : va_G} {ad : Nat → Nat} {ca : Nat → ClassId} (x1 : Int32) (q : z_Sg) (o : z_Sg) (h : f_Mo_level x1 q = some o) : z_cv l y_Mo_level b_Mo_level 2 none 0 0 D (z_Mt ca) (z_M ad ca q) (z_M ad ca o) [.ref (ad 0), .int x1] := by
  refine z_cv_of (own := z_RMo) (by decide) rfl ?_
  intro p e s m below meth c A C0 hw
  obtain ⟨hx, hb, hr, hlk, hml, hown, hts, hK, hA⟩ := id C0
  generalize hH : s.heap = H at hw ⊢
  generalize hlo : ([] : List Loc) = locs at hw ⊢
  refine z_entry (lv := [(0, .ref (ad 0)), (1, .int x1)]) (Nat.le_of_ble_eq_true rfl) rfl (fun ls hl => ?_)
  unfold f_Mo_level at h
  refine lv_aload_n hx hb d_Mo_level_0 rfl (lv_at hl 0 rfl) ?_
  refine lv_iload_n hx hb d_Mo_level_1 rfl (lv_at hl 1 rfl) ?_
  obtain ⟨b1, h⟩ := ok_G h
  refine pfM_0_user C0 hw b1 fl_Mo_48 d_Mo_level_2 (fun H locs hw => ?_)
  obtain ⟨q2, eq2, h⟩ := ok_n h
  rw [← eq2] at hw
  have ho := Option.some.inj h
  subst ho
  exact z_rtv C0 hw d_Mo_level_5
def k_Mo_isWrong_59 (ih23 : Int64 × Int32 × Int32 × Int32 → Option Int32) (x0 : Int64) (x2 : Int32) (x4 : Int32) (t0 : Int32) (q : z_Sg) : Option Int32 :=
  z_nm (x4 + (1 : Int32)) (fun n5 => ih23 (x0, x2, t0, n5))
def k_Mo_isWrong_54 (ih23 : Int64 × Int32 × Int32 × Int32 → Option Int32) (x0 : Int64) (x2 : Int32) (x4 : Int32) (q : z_Sg) : Option Int32 :=
  k_Mo_isWrong_59 ih23 x0 x2 x4 (1 : Int32) q
def k_Mo_isWrong_50 (ih23 : Int64 × Int32 × Int32 × Int32 → Option Int32) (x0 : Int64) (x2 : Int32) (x4 : Int32) (t0 : Int32) (q : z_Sg) : Option Int32 :=
  if t0 = x2 then (k_Mo_isWrong_59 ih23 x0 x2 x4 (0 : Int32) q) else (k_Mo_isWrong_54 ih23 x0 x2 x4 q)
def kb_Mo_isWrong_23 (ih23 : Int64 × Int32 × Int32 × Int32 → Option Int32) (x0 : Int64) (x2 : Int32) (x3 : Int32) (x4 : Int32) (q : z_Sg) : Option Int32 :=
  if (64 : Int32) ≤ x4 then (z_gd (z_bo x3) (some x3)) else (if x3 = 0 then (if ((z_lushr x0 x4) &&& (1 : Int64)) = (1 : Int64) then (k_Mo_isWrong_50 ih23 x0 x2 x4 (1 : Int32) q) else (k_Mo_isWrong_50 ih23 x0 x2 x4 (0 : Int32) q)) else (k_Mo_isWrong_54 ih23 x0 x2 x4 q))
def k_Mo_isWrong_23 (x0 : Int64) (x2 : Int32) (x3 : Int32) (x4 : Int32) (q : z_Sg) : Option Int32 := z_lo (fun ih23 a => kb_Mo_isWrong_23 ih23 a.1 a.2.1 a.2.2.1 a.2.2.2 q) 2000 (x0, x2, x3, x4)
def k_Mo_isWrong_16 (x0 : Int64) (t0 : Int32) (q : z_Sg) : Option Int32 :=
  k_Mo_isWrong_23 x0 t0 (0 : Int32) (48 : Int32) q
def f_Mo_isWrong (x0 : Int64) (q : z_Sg) : Option Int32 :=
  if ((z_lushr x0 (47 : Int32)) &&& (1 : Int64)) = (1 : Int64) then (k_Mo_isWrong_16 x0 (1 : Int32) q) else (k_Mo_isWrong_16 x0 (0 : Int32) q)
set_option maxHeartbeats 4000000 in
set_option maxRecDepth 100000 in
theorem w_Mo_isWrong_59 {p : Program} {l : Launch} {e : Env} {s : State} {m : MethodId} {args : Array Value} {below : List Frame} {meth : Method} {c : Code} {D : va_G} {A : Nat → Prop} {ad : Nat → Nat} {ca : Nat → ClassId} (o : Int32) (C0 : z_cx z_RMo b_Mo_isWrong 5 (some .boolean) D (z_Mt ca) A p s m args meth c) (q : z_Sg) (ih23 : Int64 × Int32 × Int32 × Int32 → Option Int32) (hi23 : ∀ a : Int64 × Int32 × Int32 × Int32, ih23 a = some o → ∀ (H : Heap) (locs : List Loc) (ls : Array Slot), z_wd D (z_M ad ca q) A s H locs → lv_has ls 5 [(0, .long a.1), (2, .int a.2.1), (3, .int a.2.2.1), (4, .int a.2.2.2)] → W p l e (z_rm 0 0) s m args below meth c H locs 0 0 (z_qi below D (z_Mt ca) (z_M ad ca q) A s args o) (F0 m 23 ls [])) (x0 : Int64) (x2 : Int32) (x4 : Int32) (t0 : Int32) (h : k_Mo_isWrong_59 ih23 x0 x2 x4 t0 q = some o) : ∀ (H : Heap) (locs : List Loc) (ls : Array Slot), z_wd D (z_M ad ca q) A s H locs → lv_has ls 5 [(0, .long x0), (2, .int x2), (4, .int x4)] → W p l e (z_rm 0 0) s m args below meth c H locs 0 0 (z_qi below D (z_Mt ca) (z_M ad ca q) A s args o) (F0 m 59 ls [.int t0]) := by
  obtain ⟨hx, hb, hr, hlk, hml, hown, hts, hK, hA⟩ := id C0
  intro H locs ls hw hl
  refine lv_istore_n (lv' := [(3, .int t0), (0, .long x0), (2, .int x2), (4, .int x4)]) hx hb d_Mo_isWrong_59 rfl hl (by decide) rfl (fun ls hl => ?_)
  obtain ⟨n5, en5, h⟩ := ok_n h
  refine lv_iinc (v := n5) (lv' := [(4, .int n5), (3, .int t0), (0, .long x0), (2, .int x2)]) hx hb d_Mo_isWrong_60 hl (k := 3) rfl (by rw [en5]; rfl) (by decide) rfl (fun ls hl => ?_)
  refine lv_goto (tgt := 23) hx hb d_Mo_isWrong_63 (by decide) ?_
  exact hi23 (x0, x2, t0, n5) h H locs ls hw (lv_sub hl [2, 3, 1, 0] rfl)
set_option maxHeartbeats 4000000 in
set_option maxRecDepth 100000 in
theorem w_Mo_isWrong_54 {p : Program} {l : Launch} {e : Env} {s : State} {m : MethodId} {args : Array Value} {below : List Frame} {meth : Method} {c : Code} {D : va_G} {A : Nat → Prop} {ad : Nat → Nat} {ca : Nat → ClassId} (o : Int32) (C0 : z_cx z_RMo b_Mo_isWrong 5 (some .boolean) D (z_Mt ca) A p s m args meth c) (q : z_Sg) (ih23 : Int64 × Int32 × Int32 × Int32 → Option Int32) (hi23 : ∀ a : Int64 × Int32 × Int32 × Int32, ih23 a = some o → ∀ (H : Heap) (locs : List Loc) (ls : Array Slot), z_wd D (z_M ad ca q) A s H locs → lv_has ls 5 [(0, .long a.1), (2, .int a.2.1), (3, .int a.2.2.1), (4, .int a.2.2.2)] → W p l e (z_rm 0 0) s m args below meth c H locs 0 0 (z_qi below D (z_Mt ca) (z_M ad ca q) A s args o) (F0 m 23 ls [])) (x0 : Int64) (x2 : Int32) (x4 : Int32) (h : k_Mo_isWrong_54 ih23 x0 x2 x4 q = some o) : ∀ (H : Heap) (locs : List Loc) (ls : Array Slot), z_wd D (z_M ad ca q) A s H locs → lv_has ls 5 [(0, .long x0), (2, .int x2), (4, .int x4)] → W p l e (z_rm 0 0) s m args below meth c H locs 0 0 (z_qi below D (z_Mt ca) (z_M ad ca q) A s args o) (F0 m 54 ls []) := by
  obtain ⟨hx, hb, hr, hlk, hml, hown, hts, hK, hA⟩ := id C0
  intro H locs ls hw hl
  refine lv_iconst (v := (1 : Int32)) hx hb d_Mo_isWrong_54 (by decide) ?_
  refine lv_goto (tgt := 59) hx hb d_Mo_isWrong_55 (by decide) ?_
  exact w_Mo_isWrong_59 o C0 q ih23 hi23 x0 x2 x4 (1 : Int32) h H locs ls hw (lv_sub hl [0, 1, 2] rfl)
set_option maxHeartbeats 4000000 in
set_option maxRecDepth 100000 in
theorem w_Mo_isWrong_50 {p : Program} {l : Launch} {e : Env} {s : State} {m : MethodId} {args : Array Value} {below : List Frame} {meth : Method} {c : Code} {D : va_G} {A : Nat → Prop} {ad : Nat → Nat} {ca : Nat → ClassId} (o : Int32) (C0 : z_cx z_RMo b_Mo_isWrong 5 (some .boolean) D (z_Mt ca) A p s m args meth c) (q : z_Sg) (ih23 : Int64 × Int32 × Int32 × Int32 → Option Int32) (hi23 : ∀ a : Int64 × Int32 × Int32 × Int32, ih23 a = some o → ∀ (H : Heap) (locs : List Loc) (ls : Array Slot), z_wd D (z_M ad ca q) A s H locs → lv_has ls 5 [(0, .long a.1), (2, .int a.2.1), (3, .int a.2.2.1), (4, .int a.2.2.2)] → W p l e (z_rm 0 0) s m args below meth c H locs 0 0 (z_qi below D (z_Mt ca) (z_M ad ca q) A s args o) (F0 m 23 ls [])) (x0 : Int64) (x2 : Int32) (x4 : Int32) (t0 : Int32) (h : k_Mo_isWrong_50 ih23 x0 x2 x4 t0 q = some o) : ∀ (H : Heap) (locs : List Loc) (ls : Array Slot), z_wd D (z_M ad ca q) A s H locs → lv_has ls 5 [(0, .long x0), (2, .int x2), (4, .int x4)] → W p l e (z_rm 0 0) s m args below meth c H locs 0 0 (z_qi below D (z_Mt ca) (z_M ad ca q) A s args o) (F0 m 50 ls [.int t0]) := by
  obtain ⟨hx, hb, hr, hlk, hml, hown, hts, hK, hA⟩ := id C0
  intro H locs ls hw hl
  refine lv_iload_n hx hb d_Mo_isWrong_50 rfl (lv_at hl 1 rfl) ?_
  refine lv_icmp_eq (tgt := 58) hx hb d_Mo_isWrong_51 (by decide) (fun c7 => ?_) (fun c7 => ?_)
  · have h := ok_t h c7
    refine lv_iconst (v := (0 : Int32)) hx hb d_Mo_isWrong_58 (by decide) ?_
    exact w_Mo_isWrong_59 o C0 q ih23 hi23 x0 x2 x4 (0 : Int32) h H locs ls hw (lv_sub hl [0, 1, 2] rfl)
  · have h := ok_f h c7
    exact w_Mo_isWrong_54 o C0 q ih23 hi23 x0 x2 x4 h H locs ls hw (lv_sub hl [0, 1, 2] rfl)
set_option maxHeartbeats 4000000 in
set_option maxRecDepth 100000 in
theorem wb_Mo_isWrong_23 {p : Program} {l : Launch} {e : Env} {s : State} {m : MethodId} {args : Array Value} {below : List Frame} {meth : Method} {c : Code} {D : va_G} {A : Nat → Prop} {ad : Nat → Nat} {ca : Nat → ClassId} (o : Int32) (C0 : z_cx z_RMo b_Mo_isWrong 5 (some .boolean) D (z_Mt ca) A p s m args meth c) (q : z_Sg) (ih23 : Int64 × Int32 × Int32 × Int32 → Option Int32) (hi23 : ∀ a : Int64 × Int32 × Int32 × Int32, ih23 a = some o → ∀ (H : Heap) (locs : List Loc) (ls : Array Slot), z_wd D (z_M ad ca q) A s H locs → lv_has ls 5 [(0, .long a.1), (2, .int a.2.1), (3, .int a.2.2.1), (4, .int a.2.2.2)] → W p l e (z_rm 0 0) s m args below meth c H locs 0 0 (z_qi below D (z_Mt ca) (z_M ad ca q) A s args o) (F0 m 23 ls [])) (x0 : Int64) (x2 : Int32) (x3 : Int32) (x4 : Int32) (h : kb_Mo_isWrong_23 ih23 x0 x2 x3 x4 q = some o) : ∀ (H : Heap) (locs : List Loc) (ls : Array Slot), z_wd D (z_M ad ca q) A s H locs → lv_has ls 5 [(0, .long x0), (2, .int x2), (3, .int x3), (4, .int x4)] → W p l e (z_rm 0 0) s m args below meth c H locs 0 0 (z_qi below D (z_Mt ca) (z_M ad ca q) A s args o) (F0 m 23 ls []) := by
  obtain ⟨hx, hb, hr, hlk, hml, hown, hts, hK, hA⟩ := id C0
  intro H locs ls hw hl
  refine lv_iload hx hb d_Mo_isWrong_23 (lv_at hl 3 rfl) ?_
  refine lv_bipush (v := (64 : Int32)) hx hb d_Mo_isWrong_25 (by decide) ?_
  refine lv_icmp_ge (tgt := 66) hx hb d_Mo_isWrong_27 (by decide) (fun c2 => ?_) (fun c2 => ?_)
  · have h := ok_t h c2
    refine lv_iload_n hx hb d_Mo_isWrong_66 rfl (lv_at hl 2 rfl) ?_
    obtain ⟨b3, h⟩ := ok_G h
    have ho := Option.some.inj h
    subst ho
    exact z_rtz C0 hw (z_bo_n b3) d_Mo_isWrong_67
  · have h := ok_f h c2
    refine lv_iload_n hx hb d_Mo_isWrong_30 rfl (lv_at hl 2 rfl) ?_
    refine lv_if_ne (tgt := 54) hx hb d_Mo_isWrong_31 (by decide) (fun c4 => ?_) (fun c4 => ?_)
    · have h := ok_f h c4
      exact w_Mo_isWrong_54 o C0 q ih23 hi23 x0 x2 x4 h H locs ls hw (lv_sub hl [0, 1, 3] rfl)
    · have h := ok_t h c4
      refine lv_lload_n hx hb d_Mo_isWrong_34 rfl (lv_at hl 0 rfl) ?_
      refine lv_iload hx hb d_Mo_isWrong_35 (lv_at hl 3 rfl) ?_
      refine lv_lushr (v := (z_lushr x0 x4)) hx hb d_Mo_isWrong_37 rfl ?_
      refine lv_lconst (v := (1 : Int64)) hx hb d_Mo_isWrong_38 (by decide) ?_
      refine lv_land hx hb d_Mo_isWrong_39 ?_
      refine lv_lconst (v := (1 : Int64)) hx hb d_Mo_isWrong_40 (by decide) ?_
      refine W.lcmp hx hb d_Mo_isWrong_41 ?_
      refine lv_if_ne (tgt := 49) hx hb d_Mo_isWrong_42 (by decide) (fun c6 => ?_) (fun c6 => ?_)
      · have h := ok_f h (fun z => c6 ((lg_cmp_eq _ _).mpr z))
        refine lv_iconst (v := (0 : Int32)) hx hb d_Mo_isWrong_49 (by decide) ?_
        exact w_Mo_isWrong_50 o C0 q ih23 hi23 x0 x2 x4 (0 : Int32) h H locs ls hw (lv_sub hl [0, 1, 3] rfl)
      · have h := ok_t h ((lg_cmp_eq _ _).mp c6)
        refine lv_iconst (v := (1 : Int32)) hx hb d_Mo_isWrong_45 (by decide) ?_
        refine lv_goto (tgt := 50) hx hb d_Mo_isWrong_46 (by decide) ?_
        exact w_Mo_isWrong_50 o C0 q ih23 hi23 x0 x2 x4 (1 : Int32) h H locs ls hw (lv_sub hl [0, 1, 3] rfl)
theorem w_Mo_isWrong_23 {p : Program} {l : Launch} {e : Env} {s : State} {m : MethodId} {args : Array Value} {below : List Frame} {meth : Method} {c : Code} {D : va_G} {A : Nat → Prop} {ad : Nat → Nat} {ca : Nat → ClassId} (o : Int32) (C0 : z_cx z_RMo b_Mo_isWrong 5 (some .boolean) D (z_Mt ca) A p s m args meth c) (q : z_Sg) (x0 : Int64) (x2 : Int32) (x3 : Int32) (x4 : Int32) (h : k_Mo_isWrong_23 x0 x2 x3 x4 q = some o) : ∀ (H : Heap) (locs : List Loc) (ls : Array Slot), z_wd D (z_M ad ca q) A s H locs → lv_has ls 5 [(0, .long x0), (2, .int x2), (3, .int x3), (4, .int x4)] → W p l e (z_rm 0 0) s m args below meth c H locs 0 0 (z_qi below D (z_Mt ca) (z_M ad ca q) A s args o) (F0 m 23 ls []) := by
  have key : ∀ (n : Nat) (a : Int64 × Int32 × Int32 × Int32), z_lo (fun ih23 a => kb_Mo_isWrong_23 ih23 a.1 a.2.1 a.2.2.1 a.2.2.2 q) n a = some o → ∀ (H : Heap) (locs : List Loc) (ls : Array Slot), z_wd D (z_M ad ca q) A s H locs → lv_has ls 5 [(0, .long a.1), (2, .int a.2.1), (3, .int a.2.2.1), (4, .int a.2.2.2)] → W p l e (z_rm 0 0) s m args below meth c H locs 0 0 (z_qi below D (z_Mt ca) (z_M ad ca q) A s args o) (F0 m 23 ls []) := by
    intro n
    induction n with
    | zero => intro a h; cases h
    | succ n ih => exact fun a h => wb_Mo_isWrong_23 o C0 q (z_lo (fun ih23 a => kb_Mo_isWrong_23 ih23 a.1 a.2.1 a.2.2.1 a.2.2.2 q) n) ih a.1 a.2.1 a.2.2.1 a.2.2.2 h
  exact key 2000 (x0, x2, x3, x4) h
set_option maxHeartbeats 4000000 in
set_option maxRecDepth 100000 in
theorem w_Mo_isWrong_16 {p : Program} {l : Launch} {e : Env} {s : State} {m : MethodId} {args : Array Value} {below : List Frame} {meth : Method} {c : Code} {D : va_G} {A : Nat → Prop} {ad : Nat → Nat} {ca : Nat → ClassId} (o : Int32) (C0 : z_cx z_RMo b_Mo_isWrong 5 (some .boolean) D (z_Mt ca) A p s m args meth c) (q : z_Sg) (x0 : Int64) (t0 : Int32) (h : k_Mo_isWrong_16 x0 t0 q = some o) : ∀ (H : Heap) (locs : List Loc) (ls : Array Slot), z_wd D (z_M ad ca q) A s H locs → lv_has ls 5 [(0, .long x0)] → W p l e (z_rm 0 0) s m args below meth c H locs 0 0 (z_qi below D (z_Mt ca) (z_M ad ca q) A s args o) (F0 m 16 ls [.int t0]) := by
  obtain ⟨hx, hb, hr, hlk, hml, hown, hts, hK, hA⟩ := id C0
  intro H locs ls hw hl
  refine lv_istore_n (lv' := [(2, .int t0), (0, .long x0)]) hx hb d_Mo_isWrong_16 rfl hl (by decide) rfl (fun ls hl => ?_)
  refine lv_iconst (v := (0 : Int32)) hx hb d_Mo_isWrong_17 (by decide) ?_
  refine lv_istore_n (lv' := [(3, .int (0 : Int32)), (2, .int t0), (0, .long x0)]) hx hb d_Mo_isWrong_18 rfl hl (by decide) rfl (fun ls hl => ?_)
  refine lv_bipush (v := (48 : Int32)) hx hb d_Mo_isWrong_19 (by decide) ?_
  refine lv_istore (lv' := [(4, .int (48 : Int32)), (3, .int (0 : Int32)), (2, .int t0), (0, .long x0)]) hx hb d_Mo_isWrong_21 hl (by decide) rfl (fun ls hl => ?_)
  exact w_Mo_isWrong_23 o C0 q x0 t0 (0 : Int32) (48 : Int32) h H locs ls hw (lv_sub hl [3, 2, 1, 0] rfl)
set_option maxHeartbeats 4000000 in
set_option maxRecDepth 100000 in
theorem c_Mo_isWrong {l : Launch} {D : va_G} {ad : Nat → Nat} {ca : Nat → ClassId} (x0 : Int64) (q : z_Sg) (o : Int32) (h : f_Mo_isWrong x0 q = some o) : z_ci l y_Mo_isWrong b_Mo_isWrong 5 (some .boolean) 0 0 D (z_Mt ca) (z_M ad ca q) (z_M ad ca q) [.long x0] o := by
  refine z_ci_of (own := z_RMo) (by decide) rfl ?_
  intro p e s m below meth c A C0 hw
  obtain ⟨hx, hb, hr, hlk, hml, hown, hts, hK, hA⟩ := id C0
  generalize hH : s.heap = H at hw ⊢
  generalize hlo : ([] : List Loc) = locs at hw ⊢
  refine z_entry (lv := [(0, .long x0)]) (Nat.le_of_ble_eq_true rfl) rfl (fun ls hl => ?_)
  unfold f_Mo_isWrong at h
  refine lv_lload_n hx hb d_Mo_isWrong_0 rfl (lv_at hl 0 rfl) ?_
  refine lv_bipush (v := (47 : Int32)) hx hb d_Mo_isWrong_1 (by decide) ?_
  refine lv_lushr (v := (z_lushr x0 (47 : Int32))) hx hb d_Mo_isWrong_3 rfl ?_
  refine lv_lconst (v := (1 : Int64)) hx hb d_Mo_isWrong_4 (by decide) ?_
  refine lv_land hx hb d_Mo_isWrong_5 ?_
  refine lv_lconst (v := (1 : Int64)) hx hb d_Mo_isWrong_6 (by decide) ?_
  refine W.lcmp hx hb d_Mo_isWrong_7 ?_
  refine lv_if_ne (tgt := 15) hx hb d_Mo_isWrong_8 (by decide) (fun c1 => ?_) (fun c1 => ?_)
  · have h := ok_f h (fun z => c1 ((lg_cmp_eq _ _).mpr z))
    refine lv_iconst (v := (0 : Int32)) hx hb d_Mo_isWrong_15 (by decide) ?_
    exact w_Mo_isWrong_16 o C0 q x0 (0 : Int32) h H locs ls hw (lv_sub hl [0] rfl)
  · have h := ok_t h ((lg_cmp_eq _ _).mp c1)
    refine lv_iconst (v := (1 : Int32)) hx hb d_Mo_isWrong_11 (by decide) ?_
    refine lv_goto (tgt := 16) hx hb d_Mo_isWrong_12 (by decide) ?_
    exact w_Mo_isWrong_16 o C0 q x0 (1 : Int32) h H locs ls hw (lv_sub hl [0] rfl)
def f_Mo_bits (x0 : Int64) (x2 : Int32) (x3 : Int32) (q : z_Sg) : Option Int64 :=
  some ((z_lushr x0 x2) &&& ((z_lshl (1 : Int64) ((x3 - x2) + (1 : Int32))) - (1 : Int64)))
set_option maxHeartbeats 4000000 in
set_option maxRecDepth 100000 in
theorem c_Mo_bits {l : Launch} {D : va_G} {ad : Nat → Nat} {ca : Nat → ClassId} (x0 : Int64) (x2 : Int32) (x3 : Int32) (q : z_Sg) (o : Int64) (h : f_Mo_bits x0 x2 x3 q = some o) : z_cl l y_Mo_bits b_Mo_bits 4 (some .long) 0 0 D (z_Mt ca) (z_M ad ca q) (z_M ad ca q) [.long x0, .int x2, .int x3] o := by
  refine z_cl_of (own := z_RMo) (by decide) rfl ?_
  intro p e s m below meth c A C0 hw
  obtain ⟨hx, hb, hr, hlk, hml, hown, hts, hK, hA⟩ := id C0
  generalize hH : s.heap = H at hw ⊢
  generalize hlo : ([] : List Loc) = locs at hw ⊢
  refine z_entry (lv := [(0, .long x0), (2, .int x2), (3, .int x3)]) (Nat.le_of_ble_eq_true rfl) rfl (fun ls hl => ?_)
  unfold f_Mo_bits at h
  refine lv_lload_n hx hb d_Mo_bits_0 rfl (lv_at hl 0 rfl) ?_
  refine lv_iload_n hx hb d_Mo_bits_1 rfl (lv_at hl 1 rfl) ?_
  refine lv_lushr (v := (z_lushr x0 x2)) hx hb d_Mo_bits_2 rfl ?_
  refine lv_lconst (v := (1 : Int64)) hx hb d_Mo_bits_3 (by decide) ?_
  refine lv_iload_n hx hb d_Mo_bits_4 rfl (lv_at hl 2 rfl) ?_
  refine lv_iload_n hx hb d_Mo_bits_5 rfl (lv_at hl 1 rfl) ?_
  refine lv_isub hx hb d_Mo_bits_6 ?_
  refine lv_iconst (v := (1 : Int32)) hx hb d_Mo_bits_7 (by decide) ?_
  refine lv_iadd hx hb d_Mo_bits_8 ?_
  refine lv_lshl (v := (z_lshl (1 : Int64) ((x3 - x2) + (1 : Int32)))) hx hb d_Mo_bits_9 rfl ?_
  refine lv_lconst (v := (1 : Int64)) hx hb d_Mo_bits_10 (by decide) ?_
  refine lv_lsub hx hb d_Mo_bits_11 ?_
  refine lv_land hx hb d_Mo_bits_12 ?_
  have ho := Option.some.inj h
  subst ho
  exact z_rtl C0 hw d_Mo_bits_13
def k_Mo_find_379 (t0 : Int64) (q : z_Sg) : Option (Int64 × z_Sg) :=
  some (t0, q)
def k_Mo_find_340 (x1 : Int64) (x5 : Int64) (x10 : Int32) (x11 : Int64) (q : z_Sg) : Option (Int64 × z_Sg) :=
  if x10 = (1 : Int32) then ((f_Mo_bits x11 (21 : Int32) (51 : Int32) q).bind (fun r14 => (f_Mo_bits x1 (0 : Int32) (20 : Int32) q).bind (fun r15 => k_Mo_find_379 ((z_lshl r14 (21 : Int32)) + r15) q))) else ((f_Mo_bits x1 (0 : Int32) (11 : Int32) q).bind (fun r13 => k_Mo_find_379 (x5 + r13) q))
def k_Mo_find_336 (q : z_Sg) : Option (Int64 × z_Sg) :=
  some ((-1 : Int64), q)
def k_Mo_find_326 (x1 : Int64) (x3 : Int32) (x5 : Int64) (x9 : Int32) (x10 : Int32) (x11 : Int64) (q : z_Sg) : Option (Int64 × z_Sg) :=
  if x3 = (2 : Int32) then (if x9 = 0 then (k_Mo_find_336 q) else (k_Mo_find_340 x1 x5 x10 x11 q)) else (k_Mo_find_340 x1 x5 x10 x11 q)
def k_Mo_find_314 (x1 : Int64) (x3 : Int32) (x5 : Int64) (x8 : Int32) (x9 : Int32) (x10 : Int32) (x11 : Int64) (q : z_Sg) : Option (Int64 × z_Sg) :=
  if (z_gI q 2) = 0 then (k_Mo_find_326 x1 x3 x5 x9 x10 x11 q) else (if x8 = 0 then (k_Mo_find_336 q) else (k_Mo_find_326 x1 x3 x5 x9 x10 x11 q))
def k_Mo_find_293 (ih71 : Int64 × Int32 × Int32 × Int64 × Int32 × Int32 × Int32 × Int32 × Int64 × Int32 × z_Sg → Option (Int64 × z_Sg)) (x1 : Int64) (x3 : Int32) (x4 : Int32) (x5 : Int64) (x7 : Int32) (x8 : Int32) (x9 : Int32) (x10 : Int32) (x11 : Int64) (x13 : Int32) (q : z_Sg) : Option (Int64 × z_Sg) :=
  ih71 (x1, x3, x4, x5, x7, x8, x9, x10, x11, x13, q)
def k_Mo_find_283 (ih71 : Int64 × Int32 × Int32 × Int64 × Int32 × Int32 × Int32 × Int32 × Int64 × Int32 × z_Sg → Option (Int64 × z_Sg)) (x1 : Int64) (x3 : Int32) (x4 : Int32) (x5 : Int64) (x7 : Int32) (x8 : Int32) (x9 : Int32) (x10 : Int32) (x11 : Int64) (t0 : Int32) (q : z_Sg) : Option (Int64 × z_Sg) :=
  if t0 = 0 then (z_nm (x10 + (-1 : Int32)) (fun n33 => k_Mo_find_293 ih71 x1 x3 x4 x5 x7 x8 x9 n33 x11 t0 q)) else (k_Mo_find_293 ih71 x1 x3 x4 x5 x7 x8 x9 x10 x11 t0 q)
def k_Mo_find_278 (ih71 : Int64 × Int32 × Int32 × Int64 × Int32 × Int32 × Int32 × Int32 × Int64 × Int32 × z_Sg → Option (Int64 × z_Sg)) (x1 : Int64) (x3 : Int32) (x4 : Int32) (x5 : Int64) (x7 : Int32) (x8 : Int32) (x9 : Int32) (x10 : Int32) (x11 : Int64) (q : z_Sg) : Option (Int64 × z_Sg) :=
  k_Mo_find_283 ih71 x1 x3 x4 x5 x7 x8 x9 x10 x11 (1 : Int32) q
def k_Mo_find_252 (ih71 : Int64 × Int32 × Int32 × Int64 × Int32 × Int32 × Int32 × Int32 × Int64 × Int32 × z_Sg → Option (Int64 × z_Sg)) (x1 : Int64) (x3 : Int32) (x4 : Int32) (x7 : Int32) (x8 : Int32) (x10 : Int32) (x11 : Int64) (x14 : Int32) (t0 : Int32) (q : z_Sg) : Option (Int64 × z_Sg) :=
  (f_Mo_bits x11 (12 : Int32) (51 : Int32) q).bind (fun r29 => z_nm ((z_lshl r29 (12 : Int32))) (fun n30 => if x14 = 0 then (if x10 = 0 then (k_Mo_find_278 ih71 x1 x3 x4 n30 x7 x8 t0 x10 x11 q) else (k_Mo_find_283 ih71 x1 x3 x4 n30 x7 x8 t0 x10 x11 (0 : Int32) q)) else (k_Mo_find_278 ih71 x1 x3 x4 n30 x7 x8 t0 x10 x11 q)))
def k_Mo_find_251 (ih71 : Int64 × Int32 × Int32 × Int64 × Int32 × Int32 × Int32 × Int32 × Int64 × Int32 × z_Sg → Option (Int64 × z_Sg)) (x1 : Int64) (x3 : Int32) (x4 : Int32) (x7 : Int32) (x8 : Int32) (x10 : Int32) (x11 : Int64) (x14 : Int32) (q : z_Sg) : Option (Int64 × z_Sg) :=
  k_Mo_find_252 ih71 x1 x3 x4 x7 x8 x10 x11 x14 (0 : Int32) q
def k_Mo_find_233 (ih71 : Int64 × Int32 × Int32 × Int64 × Int32 × Int32 × Int32 × Int32 × Int64 × Int32 × z_Sg → Option (Int64 × z_Sg)) (x1 : Int64) (x3 : Int32) (x4 : Int32) (x7 : Int32) (x9 : Int32) (x10 : Int32) (x11 : Int64) (x14 : Int32) (t0 : Int32) (q : z_Sg) : Option (Int64 × z_Sg) :=
  if x9 = 0 then (k_Mo_find_251 ih71 x1 x3 x4 x7 t0 x10 x11 x14 q) else (if x11 < (0 : Int64) then (k_Mo_find_251 ih71 x1 x3 x4 x7 t0 x10 x11 x14 q) else (k_Mo_find_252 ih71 x1 x3 x4 x7 t0 x10 x11 x14 (1 : Int32) q))
def k_Mo_find_232 (ih71 : Int64 × Int32 × Int32 × Int64 × Int32 × Int32 × Int32 × Int32 × Int64 × Int32 × z_Sg → Option (Int64 × z_Sg)) (x1 : Int64) (x3 : Int32) (x4 : Int32) (x7 : Int32) (x9 : Int32) (x10 : Int32) (x11 : Int64) (x14 : Int32) (q : z_Sg) : Option (Int64 × z_Sg) :=
  k_Mo_find_233 ih71 x1 x3 x4 x7 x9 x10 x11 x14 (0 : Int32) q
def k_Mo_find_210 (ih71 : Int64 × Int32 × Int32 × Int64 × Int32 × Int32 × Int32 × Int32 × Int64 × Int32 × z_Sg → Option (Int64 × z_Sg)) (x1 : Int64) (x3 : Int32) (x4 : Int32) (x8 : Int32) (x9 : Int32) (x10 : Int32) (x11 : Int64) (x14 : Int32) (t0 : Int32) (q : z_Sg) : Option (Int64 × z_Sg) :=
  if x8 = 0 then (k_Mo_find_232 ih71 x1 x3 x4 t0 x9 x10 x11 x14 q) else (if (x11 &&& (4 : Int64)) = (0 : Int64) then (k_Mo_find_232 ih71 x1 x3 x4 t0 x9 x10 x11 x14 q) else (k_Mo_find_233 ih71 x1 x3 x4 t0 x9 x10 x11 x14 (1 : Int32) q))
def k_Mo_find_209 (ih71 : Int64 × Int32 × Int32 × Int64 × Int32 × Int32 × Int32 × Int32 × Int64 × Int32 × z_Sg → Option (Int64 × z_Sg)) (x1 : Int64) (x3 : Int32) (x4 : Int32) (x8 : Int32) (x9 : Int32) (x10 : Int32) (x11 : Int64) (x14 : Int32) (q : z_Sg) : Option (Int64 × z_Sg) :=
  k_Mo_find_210 ih71 x1 x3 x4 x8 x9 x10 x11 x14 (0 : Int32) q
def k_Mo_find_189 (ih71 : Int64 × Int32 × Int32 × Int64 × Int32 × Int32 × Int32 × Int32 × Int64 × Int32 × z_Sg → Option (Int64 × z_Sg)) (x1 : Int64) (x3 : Int32) (x4 : Int32) (x7 : Int32) (x8 : Int32) (x9 : Int32) (x10 : Int32) (x11 : Int64) (x14 : Int32) (q : z_Sg) : Option (Int64 × z_Sg) :=
  if x7 = 0 then (k_Mo_find_209 ih71 x1 x3 x4 x8 x9 x10 x11 x14 q) else (if (x11 &&& (2 : Int64)) = (0 : Int64) then (k_Mo_find_209 ih71 x1 x3 x4 x8 x9 x10 x11 x14 q) else (k_Mo_find_210 ih71 x1 x3 x4 x8 x9 x10 x11 x14 (1 : Int32) q))
def k_Mo_find_185 (q : z_Sg) : Option (Int64 × z_Sg) :=
  some ((-1 : Int64), q)
def k_Mo_find_130 (ih71 : Int64 × Int32 × Int32 × Int64 × Int32 × Int32 × Int32 × Int32 × Int64 × Int32 × z_Sg → Option (Int64 × z_Sg)) (x1 : Int64) (x3 : Int32) (x4 : Int32) (x7 : Int32) (x8 : Int32) (x9 : Int32) (x10 : Int32) (x11 : Int64) (t0 : Int32) (q : z_Sg) : Option (Int64 × z_Sg) :=
  z_nm (z_sI q 1 x4) (fun q22 => if (x11 &&& (1 : Int64)) = (0 : Int64) then (some ((-1 : Int64), q22)) else (z_nm (z_sI q22 1 (x4 + (9 : Int32))) (fun q24 => if t0 = 0 then (k_Mo_find_189 ih71 x1 x3 x4 x7 x8 x9 x10 x11 t0 q24) else (if (1 : Int32) < x10 then (k_Mo_find_185 q24) else ((f_Mo_bits x11 (13 : Int32) (20 : Int32) q24).bind (fun r39 => if r39 = (0 : Int64) then (k_Mo_find_189 ih71 x1 x3 x4 x7 x8 x9 x10 x11 t0 q24) else (k_Mo_find_185 q24)))))))
def k_Mo_find_129 (ih71 : Int64 × Int32 × Int32 × Int64 × Int32 × Int32 × Int32 × Int32 × Int64 × Int32 × z_Sg → Option (Int64 × z_Sg)) (x1 : Int64) (x3 : Int32) (x4 : Int32) (x7 : Int32) (x8 : Int32) (x9 : Int32) (x10 : Int32) (x11 : Int64) (q : z_Sg) : Option (Int64 × z_Sg) :=
  k_Mo_find_130 ih71 x1 x3 x4 x7 x8 x9 x10 x11 (0 : Int32) q
def kb_Mo_find_71 (ih71 : Int64 × Int32 × Int32 × Int64 × Int32 × Int32 × Int32 × Int32 × Int64 × Int32 × z_Sg → Option (Int64 × z_Sg)) (x1 : Int64) (x3 : Int32) (x4 : Int32) (x5 : Int64) (x7 : Int32) (x8 : Int32) (x9 : Int32) (x10 : Int32) (x11 : Int64) (x13 : Int32) (q : z_Sg) : Option (Int64 × z_Sg) :=
  if x13 = 0 then ((f_Mo_bits x1 ((12 : Int32) + ((9 : Int32) * x10)) ((20 : Int32) + ((9 : Int32) * x10)) q).bind (fun r19 => (f_Mo_eight (x5 + ((8 : Int64) * r19)) q).bind (fun r20 => if x10 ≤ 0 then (k_Mo_find_129 ih71 x1 x3 x4 x7 x8 x9 x10 r20 q) else (if (r20 &&& (128 : Int64)) = (0 : Int64) then (k_Mo_find_129 ih71 x1 x3 x4 x7 x8 x9 x10 r20 q) else (k_Mo_find_130 ih71 x1 x3 x4 x7 x8 x9 x10 r20 (1 : Int32) q))))) else (z_nm (z_sI q 1 (x4 + (1 : Int32))) (fun q8 => if x3 = (1 : Int32) then (if x7 = 0 then (k_Mo_find_336 q8) else (k_Mo_find_314 x1 x3 x5 x8 x9 x10 x11 q8)) else (k_Mo_find_314 x1 x3 x5 x8 x9 x10 x11 q8)))
def k_Mo_find_71 (x1 : Int64) (x3 : Int32) (x4 : Int32) (x5 : Int64) (x7 : Int32) (x8 : Int32) (x9 : Int32) (x10 : Int32) (x11 : Int64) (x13 : Int32) (q : z_Sg) : Option (Int64 × z_Sg) := z_lo (fun ih71 a => kb_Mo_find_71 ih71 a.1 a.2.1 a.2.2.1 a.2.2.2.1 a.2.2.2.2.1 a.2.2.2.2.2.1 a.2.2.2.2.2.2.1 a.2.2.2.2.2.2.2.1 a.2.2.2.2.2.2.2.2.1 a.2.2.2.2.2.2.2.2.2.1 a.2.2.2.2.2.2.2.2.2.2) 2000 (x1, x3, x4, x5, x7, x8, x9, x10, x11, x13, q)
def k_Mo_find_34 (x1 : Int64) (x3 : Int32) (t0 : Int32) (t1 : Int32) (q : z_Sg) : Option (Int64 × z_Sg) :=
  z_nm ((t0 + t1)) (fun n4 => (f_Mo_bits (z_gL q 1) (12 : Int32) (51 : Int32) q).bind (fun r5 => z_nm ((z_lshl r5 (12 : Int32))) (fun n6 => k_Mo_find_71 x1 x3 n4 n6 (1 : Int32) (1 : Int32) (1 : Int32) (3 : Int32) (0 : Int64) (0 : Int32) q)))
def k_Mo_find_22 (x1 : Int64) (x3 : Int32) (t0 : Int32) (t1 : Int32) (q : z_Sg) : Option (Int64 × z_Sg) :=
  if x3 = (2 : Int32) then (k_Mo_find_34 x1 x3 (t0 + t1) (16 : Int32) q) else (k_Mo_find_34 x1 x3 (t0 + t1) (0 : Int32) q)
def k_Mo_find_10 (x1 : Int64) (x3 : Int32) (t0 : Int32) (q : z_Sg) : Option (Int64 × z_Sg) :=
  if (z_gI q 2) = 0 then (k_Mo_find_22 x1 x3 t0 (0 : Int32) q) else (k_Mo_find_22 x1 x3 t0 (4 : Int32) q)
def f_Mo_find (x1 : Int64) (x3 : Int32) (q : z_Sg) : Option (Int64 × z_Sg) :=
  if x3 = (1 : Int32) then (k_Mo_find_10 x1 x3 (2 : Int32) q) else (k_Mo_find_10 x1 x3 (0 : Int32) q)
set_option maxHeartbeats 4000000 in
set_option maxRecDepth 100000 in
theorem w_Mo_find_379 {p : Program} {l : Launch} {e : Env} {s : State} {m : MethodId} {args : Array Value} {below : List Frame} {meth : Method} {c : Code} {D : va_G} {A : Nat → Prop} {ad : Nat → Nat} {ca : Nat → ClassId} (o : (Int64 × z_Sg)) (C0 : z_cx z_RMo b_Mo_find 15 (some .long) D (z_Mt ca) A p s m args meth c) (q : z_Sg) (t0 : Int64) (h : k_Mo_find_379 t0 q = some o) : ∀ (H : Heap) (locs : List Loc) (ls : Array Slot), z_wd D (z_M ad ca q) A s H locs → lv_has ls 15 [] → W p l e (z_rm 2 47) s m args below meth c H locs 0 0 (z_ql below D (z_Mt ca) (z_M ad ca o.2) A s args o.1) (F0 m 379 ls [.long t0]) := by
  obtain ⟨hx, hb, hr, hlk, hml, hown, hts, hK, hA⟩ := id C0
  intro H locs ls hw hl
  have ho := Option.some.inj h
  subst ho
  exact z_rtl C0 hw d_Mo_find_379
set_option maxHeartbeats 4000000 in
set_option maxRecDepth 100000 in
theorem w_Mo_find_340 {p : Program} {l : Launch} {e : Env} {s : State} {m : MethodId} {args : Array Value} {below : List Frame} {meth : Method} {c : Code} {D : va_G} {A : Nat → Prop} {ad : Nat → Nat} {ca : Nat → ClassId} (o : (Int64 × z_Sg)) (C0 : z_cx z_RMo b_Mo_find 15 (some .long) D (z_Mt ca) A p s m args meth c) (q : z_Sg) (x1 : Int64) (x5 : Int64) (x10 : Int32) (x11 : Int64) (h : k_Mo_find_340 x1 x5 x10 x11 q = some o) : ∀ (H : Heap) (locs : List Loc) (ls : Array Slot), z_wd D (z_M ad ca q) A s H locs → lv_has ls 15 [(1, .long x1), (5, .long x5), (10, .int x10), (11, .long x11)] → W p l e (z_rm 2 47) s m args below meth c H locs 0 0 (z_ql below D (z_Mt ca) (z_M ad ca o.2) A s args o.1) (F0 m 340 ls []) := by
  obtain ⟨hx, hb, hr, hlk, hml, hown, hts, hK, hA⟩ := id C0
  intro H locs ls hw hl
  refine lv_iload hx hb d_Mo_find_340 (lv_at hl 2 rfl) ?_
  refine lv_iconst (v := (1 : Int32)) hx hb d_Mo_find_342 (by decide) ?_
  refine lv_icmp_ne (tgt := 369) hx hb d_Mo_find_343 (by decide) (fun c12 => ?_) (fun c12 => ?_)
  · have h := ok_f h c12
    refine lv_lload hx hb d_Mo_find_369 (lv_at hl 1 rfl) ?_
    refine lv_lload_n hx hb d_Mo_find_371 rfl (lv_at hl 0 rfl) ?_
    refine lv_iconst (v := (0 : Int32)) hx hb d_Mo_find_372 (by decide) ?_
    refine lv_bipush (v := (11 : Int32)) hx hb d_Mo_find_373 (by decide) ?_
    obtain ⟨r13, er13, h⟩ := ok_b h
    refine z_sl (rest := [.long x5]) C0 hw (c_Mo_bits x1 (0 : Int32) (11 : Int32) q r13 er13) mw_Mo_bits ml_Mo_56 ⟨Nat.le_of_ble_eq_true rfl, Nat.le_of_ble_eq_true rfl⟩ ⟨Nat.le_refl 0, Nat.le_refl 0⟩ rfl hl.1 rfl (Nat.le_of_ble_eq_true rfl) d_Mo_find_375 (fun H locs hw => ?_)
    refine lv_ladd hx hb d_Mo_find_378 ?_
    exact w_Mo_find_379 o C0 q (x5 + r13) h H locs ls hw (lv_sub hl [] rfl)
  · have h := ok_t h c12
    refine lv_lload hx hb d_Mo_find_346 (lv_at hl 3 rfl) ?_
    refine lv_bipush (v := (21 : Int32)) hx hb d_Mo_find_348 (by decide) ?_
    refine lv_bipush (v := (51 : Int32)) hx hb d_Mo_find_350 (by decide) ?_
    obtain ⟨r14, er14, h⟩ := ok_b h
    refine z_sl (rest := []) C0 hw (c_Mo_bits x11 (21 : Int32) (51 : Int32) q r14 er14) mw_Mo_bits ml_Mo_56 ⟨Nat.le_of_ble_eq_true rfl, Nat.le_of_ble_eq_true rfl⟩ ⟨Nat.le_refl 0, Nat.le_refl 0⟩ rfl hl.1 rfl (Nat.le_of_ble_eq_true rfl) d_Mo_find_352 (fun H locs hw => ?_)
    refine lv_bipush (v := (21 : Int32)) hx hb d_Mo_find_355 (by decide) ?_
    refine lv_lshl (v := (z_lshl r14 (21 : Int32))) hx hb d_Mo_find_357 rfl ?_
    refine lv_lload_n hx hb d_Mo_find_358 rfl (lv_at hl 0 rfl) ?_
    refine lv_iconst (v := (0 : Int32)) hx hb d_Mo_find_359 (by decide) ?_
    refine lv_bipush (v := (20 : Int32)) hx hb d_Mo_find_360 (by decide) ?_
    obtain ⟨r15, er15, h⟩ := ok_b h
    refine z_sl (rest := [.long (z_lshl r14 (21 : Int32))]) C0 hw (c_Mo_bits x1 (0 : Int32) (20 : Int32) q r15 er15) mw_Mo_bits ml_Mo_56 ⟨Nat.le_of_ble_eq_true rfl, Nat.le_of_ble_eq_true rfl⟩ ⟨Nat.le_refl 0, Nat.le_refl 0⟩ rfl hl.1 rfl (Nat.le_of_ble_eq_true rfl) d_Mo_find_362 (fun H locs hw => ?_)
    refine lv_ladd hx hb d_Mo_find_365 ?_
    refine lv_goto (tgt := 379) hx hb d_Mo_find_366 (by decide) ?_
    exact w_Mo_find_379 o C0 q ((z_lshl r14 (21 : Int32)) + r15) h H locs ls hw (lv_sub hl [] rfl)
set_option maxHeartbeats 4000000 in
set_option maxRecDepth 100000 in
theorem w_Mo_find_336 {p : Program} {l : Launch} {e : Env} {s : State} {m : MethodId} {args : Array Value} {below : List Frame} {meth : Method} {c : Code} {D : va_G} {A : Nat → Prop} {ad : Nat → Nat} {ca : Nat → ClassId} (o : (Int64 × z_Sg)) (C0 : z_cx z_RMo b_Mo_find 15 (some .long) D (z_Mt ca) A p s m args meth c) (q : z_Sg) (h : k_Mo_find_336 q = some o) : ∀ (H : Heap) (locs : List Loc) (ls : Array Slot), z_wd D (z_M ad ca q) A s H locs → lv_has ls 15 [] → W p l e (z_rm 2 47) s m args below meth c H locs 0 0 (z_ql below D (z_Mt ca) (z_M ad ca o.2) A s args o.1) (F0 m 336 ls []) := by
  obtain ⟨hx, hb, hr, hlk, hml, hown, hts, hK, hA⟩ := id C0
  intro H locs ls hw hl
  refine lv_ldc2 (own := z_RMo) hx hb hown (hts _ kl_Mo_71) d_Mo_find_336 ?_
  have ho := Option.some.inj h
  subst ho
  exact z_rtl C0 hw d_Mo_find_339
set_option maxHeartbeats 4000000 in
set_option maxRecDepth 100000 in
theorem w_Mo_find_326 {p : Program} {l : Launch} {e : Env} {s : State} {m : MethodId} {args : Array Value} {below : List Frame} {meth : Method} {c : Code} {D : va_G} {A : Nat → Prop} {ad : Nat → Nat} {ca : Nat → ClassId} (o : (Int64 × z_Sg)) (C0 : z_cx z_RMo b_Mo_find 15 (some .long) D (z_Mt ca) A p s m args meth c) (q : z_Sg) (x1 : Int64) (x3 : Int32) (x5 : Int64) (x9 : Int32) (x10 : Int32) (x11 : Int64) (h : k_Mo_find_326 x1 x3 x5 x9 x10 x11 q = some o) : ∀ (H : Heap) (locs : List Loc) (ls : Array Slot), z_wd D (z_M ad ca q) A s H locs → lv_has ls 15 [(1, .long x1), (3, .int x3), (5, .long x5), (9, .int x9), (10, .int x10), (11, .long x11)] → W p l e (z_rm 2 47) s m args below meth c H locs 0 0 (z_ql below D (z_Mt ca) (z_M ad ca o.2) A s args o.1) (F0 m 326 ls []) := by
  obtain ⟨hx, hb, hr, hlk, hml, hown, hts, hK, hA⟩ := id C0
  intro H locs ls hw hl
  refine lv_iload_n hx hb d_Mo_find_326 rfl (lv_at hl 1 rfl) ?_
  refine lv_iconst (v := (2 : Int32)) hx hb d_Mo_find_327 (by decide) ?_
  refine lv_icmp_ne (tgt := 340) hx hb d_Mo_find_328 (by decide) (fun c11 => ?_) (fun c11 => ?_)
  · have h := ok_f h c11
    exact w_Mo_find_340 o C0 q x1 x5 x10 x11 h H locs ls hw (lv_sub hl [0, 2, 4, 5] rfl)
  · have h := ok_t h c11
    refine lv_iload hx hb d_Mo_find_331 (lv_at hl 3 rfl) ?_
    refine lv_if_ne (tgt := 340) hx hb d_Mo_find_333 (by decide) (fun c16 => ?_) (fun c16 => ?_)
    · have h := ok_f h c16
      exact w_Mo_find_340 o C0 q x1 x5 x10 x11 h H locs ls hw (lv_sub hl [0, 2, 4, 5] rfl)
    · have h := ok_t h c16
      exact w_Mo_find_336 o C0 q h H locs ls hw (lv_sub hl [] rfl)
set_option maxHeartbeats 4000000 in
set_option maxRecDepth 100000 in
theorem w_Mo_find_314 {p : Program} {l : Launch} {e : Env} {s : State} {m : MethodId} {args : Array Value} {below : List Frame} {meth : Method} {c : Code} {D : va_G} {A : Nat → Prop} {ad : Nat → Nat} {ca : Nat → ClassId} (o : (Int64 × z_Sg)) (C0 : z_cx z_RMo b_Mo_find 15 (some .long) D (z_Mt ca) A p s m args meth c) (q : z_Sg) (x1 : Int64) (x3 : Int32) (x5 : Int64) (x8 : Int32) (x9 : Int32) (x10 : Int32) (x11 : Int64) (h : k_Mo_find_314 x1 x3 x5 x8 x9 x10 x11 q = some o) : ∀ (H : Heap) (locs : List Loc) (ls : Array Slot), z_wd D (z_M ad ca q) A s H locs → lv_has ls 15 [(0, .ref (ad 0)), (1, .long x1), (3, .int x3), (5, .long x5), (8, .int x8), (9, .int x9), (10, .int x10), (11, .long x11)] → W p l e (z_rm 2 47) s m args below meth c H locs 0 0 (z_ql below D (z_Mt ca) (z_M ad ca o.2) A s args o.1) (F0 m 314 ls []) := by
  obtain ⟨hx, hb, hr, hlk, hml, hown, hts, hK, hA⟩ := id C0
  intro H locs ls hw hl
  refine lv_aload_n hx hb d_Mo_find_314 rfl (lv_at hl 0 rfl) ?_
  refine gfM_0_user C0 hw fl_Mo_48 d_Mo_find_315 ?_
  refine lv_if_eq (tgt := 326) hx hb d_Mo_find_318 (by decide) (fun c10 => ?_) (fun c10 => ?_)
  · have h := ok_t h c10
    exact w_Mo_find_326 o C0 q x1 x3 x5 x9 x10 x11 h H locs ls hw (lv_sub hl [1, 2, 3, 5, 6, 7] rfl)
  · have h := ok_f h c10
    refine lv_iload hx hb d_Mo_find_321 (lv_at hl 4 rfl) ?_
    refine lv_if_eq (tgt := 336) hx hb d_Mo_find_323 (by decide) (fun c17 => ?_) (fun c17 => ?_)
    · have h := ok_t h c17
      exact w_Mo_find_336 o C0 q h H locs ls hw (lv_sub hl [] rfl)
    · have h := ok_f h c17
      exact w_Mo_find_326 o C0 q x1 x3 x5 x9 x10 x11 h H locs ls hw (lv_sub hl [1, 2, 3, 5, 6, 7] rfl)
set_option maxHeartbeats 4000000 in
set_option maxRecDepth 100000 in
theorem w_Mo_find_293 {p : Program} {l : Launch} {e : Env} {s : State} {m : MethodId} {args : Array Value} {below : List Frame} {meth : Method} {c : Code} {D : va_G} {A : Nat → Prop} {ad : Nat → Nat} {ca : Nat → ClassId} (o : (Int64 × z_Sg)) (C0 : z_cx z_RMo b_Mo_find 15 (some .long) D (z_Mt ca) A p s m args meth c) (q : z_Sg) (ih71 : Int64 × Int32 × Int32 × Int64 × Int32 × Int32 × Int32 × Int32 × Int64 × Int32 × z_Sg → Option (Int64 × z_Sg)) (hi71 : ∀ a : Int64 × Int32 × Int32 × Int64 × Int32 × Int32 × Int32 × Int32 × Int64 × Int32 × z_Sg, ih71 a = some o → ∀ (H : Heap) (locs : List Loc) (ls : Array Slot), z_wd D (z_M ad ca a.2.2.2.2.2.2.2.2.2.2) A s H locs → lv_has ls 15 [(0, .ref (ad 0)), (1, .long a.1), (3, .int a.2.1), (4, .int a.2.2.1), (5, .long a.2.2.2.1), (7, .int a.2.2.2.2.1), (8, .int a.2.2.2.2.2.1), (9, .int a.2.2.2.2.2.2.1), (10, .int a.2.2.2.2.2.2.2.1), (11, .long a.2.2.2.2.2.2.2.2.1), (13, .int a.2.2.2.2.2.2.2.2.2.1)] → W p l e (z_rm 2 47) s m args below meth c H locs 0 0 (z_ql below D (z_Mt ca) (z_M ad ca o.2) A s args o.1) (F0 m 71 ls [])) (x1 : Int64) (x3 : Int32) (x4 : Int32) (x5 : Int64) (x7 : Int32) (x8 : Int32) (x9 : Int32) (x10 : Int32) (x11 : Int64) (x13 : Int32) (h : k_Mo_find_293 ih71 x1 x3 x4 x5 x7 x8 x9 x10 x11 x13 q = some o) : ∀ (H : Heap) (locs : List Loc) (ls : Array Slot), z_wd D (z_M ad ca q) A s H locs → lv_has ls 15 [(0, .ref (ad 0)), (1, .long x1), (3, .int x3), (4, .int x4), (5, .long x5), (7, .int x7), (8, .int x8), (9, .int x9), (10, .int x10), (11, .long x11), (13, .int x13)] → W p l e (z_rm 2 47) s m args below meth c H locs 0 0 (z_ql below D (z_Mt ca) (z_M ad ca o.2) A s args o.1) (F0 m 293 ls []) := by
  obtain ⟨hx, hb, hr, hlk, hml, hown, hts, hK, hA⟩ := id C0
  intro H locs ls hw hl
  refine lv_goto (tgt := 71) hx hb d_Mo_find_293 (by decide) ?_
  exact hi71 (x1, x3, x4, x5, x7, x8, x9, x10, x11, x13, q) h H locs ls hw (lv_sub hl [0, 1, 2, 3, 4, 5, 6, 7, 8, 9, 10] rfl)
set_option maxHeartbeats 4000000 in
set_option maxRecDepth 100000 in
theorem w_Mo_find_283 {p : Program} {l : Launch} {e : Env} {s : State} {m : MethodId} {args : Array Value} {below : List Frame} {meth : Method} {c : Code} {D : va_G} {A : Nat → Prop} {ad : Nat → Nat} {ca : Nat → ClassId} (o : (Int64 × z_Sg)) (C0 : z_cx z_RMo b_Mo_find 15 (some .long) D (z_Mt ca) A p s m args meth c) (q : z_Sg) (ih71 : Int64 × Int32 × Int32 × Int64 × Int32 × Int32 × Int32 × Int32 × Int64 × Int32 × z_Sg → Option (Int64 × z_Sg)) (hi71 : ∀ a : Int64 × Int32 × Int32 × Int64 × Int32 × Int32 × Int32 × Int32 × Int64 × Int32 × z_Sg, ih71 a = some o → ∀ (H : Heap) (locs : List Loc) (ls : Array Slot), z_wd D (z_M ad ca a.2.2.2.2.2.2.2.2.2.2) A s H locs → lv_has ls 15 [(0, .ref (ad 0)), (1, .long a.1), (3, .int a.2.1), (4, .int a.2.2.1), (5, .long a.2.2.2.1), (7, .int a.2.2.2.2.1), (8, .int a.2.2.2.2.2.1), (9, .int a.2.2.2.2.2.2.1), (10, .int a.2.2.2.2.2.2.2.1), (11, .long a.2.2.2.2.2.2.2.2.1), (13, .int a.2.2.2.2.2.2.2.2.2.1)] → W p l e (z_rm 2 47) s m args below meth c H locs 0 0 (z_ql below D (z_Mt ca) (z_M ad ca o.2) A s args o.1) (F0 m 71 ls [])) (x1 : Int64) (x3 : Int32) (x4 : Int32) (x5 : Int64) (x7 : Int32) (x8 : Int32) (x9 : Int32) (x10 : Int32) (x11 : Int64) (t0 : Int32) (h : k_Mo_find_283 ih71 x1 x3 x4 x5 x7 x8 x9 x10 x11 t0 q = some o) : ∀ (H : Heap) (locs : List Loc) (ls : Array Slot), z_wd D (z_M ad ca q) A s H locs → lv_has ls 15 [(0, .ref (ad 0)), (1, .long x1), (3, .int x3), (4, .int x4), (5, .long x5), (7, .int x7), (8, .int x8), (9, .int x9), (10, .int x10), (11, .long x11)] → W p l e (z_rm 2 47) s m args below meth c H locs 0 0 (z_ql below D (z_Mt ca) (z_M ad ca o.2) A s args o.1) (F0 m 283 ls [.int t0]) := by
  obtain ⟨hx, hb, hr, hlk, hml, hown, hts, hK, hA⟩ := id C0
  intro H locs ls hw hl
  refine lv_istore (lv' := [(13, .int t0), (0, .ref (ad 0)), (1, .long x1), (3, .int x3), (4, .int x4), (5, .long x5), (7, .int x7), (8, .int x8), (9, .int x9), (10, .int x10), (11, .long x11)]) hx hb d_Mo_find_283 hl (by decide) rfl (fun ls hl => ?_)
  refine lv_iload hx hb d_Mo_find_285 (lv_at hl 0 rfl) ?_
  refine lv_if_ne (tgt := 293) hx hb d_Mo_find_287 (by decide) (fun c32 => ?_) (fun c32 => ?_)
  · have h := ok_f h c32
    exact w_Mo_find_293 o C0 q ih71 hi71 x1 x3 x4 x5 x7 x8 x9 x10 x11 t0 h H locs ls hw (lv_sub hl [1, 2, 3, 4, 5, 6, 7, 8, 9, 10, 0] rfl)
  · have h := ok_t h c32
    obtain ⟨n33, en33, h⟩ := ok_n h
    refine lv_iinc (v := n33) (lv' := [(10, .int n33), (13, .int t0), (0, .ref (ad 0)), (1, .long x1), (3, .int x3), (4, .int x4), (5, .long x5), (7, .int x7), (8, .int x8), (9, .int x9), (11, .long x11)]) hx hb d_Mo_find_290 hl (k := 9) rfl (by rw [en33]; rfl) (by decide) rfl (fun ls hl => ?_)
    exact w_Mo_find_293 o C0 q ih71 hi71 x1 x3 x4 x5 x7 x8 x9 n33 x11 t0 h H locs ls hw (lv_sub hl [2, 3, 4, 5, 6, 7, 8, 9, 0, 10, 1] rfl)
set_option maxHeartbeats 4000000 in
set_option maxRecDepth 100000 in
theorem w_Mo_find_278 {p : Program} {l : Launch} {e : Env} {s : State} {m : MethodId} {args : Array Value} {below : List Frame} {meth : Method} {c : Code} {D : va_G} {A : Nat → Prop} {ad : Nat → Nat} {ca : Nat → ClassId} (o : (Int64 × z_Sg)) (C0 : z_cx z_RMo b_Mo_find 15 (some .long) D (z_Mt ca) A p s m args meth c) (q : z_Sg) (ih71 : Int64 × Int32 × Int32 × Int64 × Int32 × Int32 × Int32 × Int32 × Int64 × Int32 × z_Sg → Option (Int64 × z_Sg)) (hi71 : ∀ a : Int64 × Int32 × Int32 × Int64 × Int32 × Int32 × Int32 × Int32 × Int64 × Int32 × z_Sg, ih71 a = some o → ∀ (H : Heap) (locs : List Loc) (ls : Array Slot), z_wd D (z_M ad ca a.2.2.2.2.2.2.2.2.2.2) A s H locs → lv_has ls 15 [(0, .ref (ad 0)), (1, .long a.1), (3, .int a.2.1), (4, .int a.2.2.1), (5, .long a.2.2.2.1), (7, .int a.2.2.2.2.1), (8, .int a.2.2.2.2.2.1), (9, .int a.2.2.2.2.2.2.1), (10, .int a.2.2.2.2.2.2.2.1), (11, .long a.2.2.2.2.2.2.2.2.1), (13, .int a.2.2.2.2.2.2.2.2.2.1)] → W p l e (z_rm 2 47) s m args below meth c H locs 0 0 (z_ql below D (z_Mt ca) (z_M ad ca o.2) A s args o.1) (F0 m 71 ls [])) (x1 : Int64) (x3 : Int32) (x4 : Int32) (x5 : Int64) (x7 : Int32) (x8 : Int32) (x9 : Int32) (x10 : Int32) (x11 : Int64) (h : k_Mo_find_278 ih71 x1 x3 x4 x5 x7 x8 x9 x10 x11 q = some o) : ∀ (H : Heap) (locs : List Loc) (ls : Array Slot), z_wd D (z_M ad ca q) A s H locs → lv_has ls 15 [(0, .ref (ad 0)), (1, .long x1), (3, .int x3), (4, .int x4), (5, .long x5), (7, .int x7), (8, .int x8), (9, .int x9), (10, .int x10), (11, .long x11)] → W p l e (z_rm 2 47) s m args below meth c H locs 0 0 (z_ql below D (z_Mt ca) (z_M ad ca o.2) A s args o.1) (F0 m 278 ls []) := by
  obtain ⟨hx, hb, hr, hlk, hml, hown, hts, hK, hA⟩ := id C0
  intro H locs ls hw hl
  refine lv_iconst (v := (1 : Int32)) hx hb d_Mo_find_278 (by decide) ?_
  refine lv_goto (tgt := 283) hx hb d_Mo_find_279 (by decide) ?_
  exact w_Mo_find_283 o C0 q ih71 hi71 x1 x3 x4 x5 x7 x8 x9 x10 x11 (1 : Int32) h H locs ls hw (lv_sub hl [0, 1, 2, 3, 4, 5, 6, 7, 8, 9] rfl)
set_option maxHeartbeats 4000000 in
set_option maxRecDepth 100000 in
theorem w_Mo_find_252 {p : Program} {l : Launch} {e : Env} {s : State} {m : MethodId} {args : Array Value} {below : List Frame} {meth : Method} {c : Code} {D : va_G} {A : Nat → Prop} {ad : Nat → Nat} {ca : Nat → ClassId} (o : (Int64 × z_Sg)) (C0 : z_cx z_RMo b_Mo_find 15 (some .long) D (z_Mt ca) A p s m args meth c) (q : z_Sg) (ih71 : Int64 × Int32 × Int32 × Int64 × Int32 × Int32 × Int32 × Int32 × Int64 × Int32 × z_Sg → Option (Int64 × z_Sg)) (hi71 : ∀ a : Int64 × Int32 × Int32 × Int64 × Int32 × Int32 × Int32 × Int32 × Int64 × Int32 × z_Sg, ih71 a = some o → ∀ (H : Heap) (locs : List Loc) (ls : Array Slot), z_wd D (z_M ad ca a.2.2.2.2.2.2.2.2.2.2) A s H locs → lv_has ls 15 [(0, .ref (ad 0)), (1, .long a.1), (3, .int a.2.1), (4, .int a.2.2.1), (5, .long a.2.2.2.1), (7, .int a.2.2.2.2.1), (8, .int a.2.2.2.2.2.1), (9, .int a.2.2.2.2.2.2.1), (10, .int a.2.2.2.2.2.2.2.1), (11, .long a.2.2.2.2.2.2.2.2.1), (13, .int a.2.2.2.2.2.2.2.2.2.1)] → W p l e (z_rm 2 47) s m args below meth c H locs 0 0 (z_ql below D (z_Mt ca) (z_M ad ca o.2) A s args o.1) (F0 m 71 ls [])) (x1 : Int64) (x3 : Int32) (x4 : Int32) (x7 : Int32) (x8 : Int32) (x10 : Int32) (x11 : Int64) (x14 : Int32) (t0 : Int32) (h : k_Mo_find_252 ih71 x1 x3 x4 x7 x8 x10 x11 x14 t0 q = some o) : ∀ (H : Heap) (locs : List Loc) (ls : Array Slot), z_wd D (z_M ad ca q) A s H locs → lv_has ls 15 [(0, .ref (ad 0)), (1, .long x1), (3, .int x3), (4, .int x4), (7, .int x7), (8, .int x8), (10, .int x10), (11, .long x11), (14, .int x14)] → W p l e (z_rm 2 47) s m args below meth c H locs 0 0 (z_ql below D (z_Mt ca) (z_M ad ca o.2) A s args o.1) (F0 m 252 ls [.int t0]) := by
  obtain ⟨hx, hb, hr, hlk, hml, hown, hts, hK, hA⟩ := id C0
  intro H locs ls hw hl
  refine lv_istore (lv' := [(9, .int t0), (0, .ref (ad 0)), (1, .long x1), (3, .int x3), (4, .int x4), (7, .int x7), (8, .int x8), (10, .int x10), (11, .long x11), (14, .int x14)]) hx hb d_Mo_find_252 hl (by decide) rfl (fun ls hl => ?_)
  refine lv_lload hx hb d_Mo_find_254 (lv_at hl 8 rfl) ?_
  refine lv_bipush (v := (12 : Int32)) hx hb d_Mo_find_256 (by decide) ?_
  refine lv_bipush (v := (51 : Int32)) hx hb d_Mo_find_258 (by decide) ?_
  obtain ⟨r29, er29, h⟩ := ok_b h
  refine z_sl (rest := []) C0 hw (c_Mo_bits x11 (12 : Int32) (51 : Int32) q r29 er29) mw_Mo_bits ml_Mo_56 ⟨Nat.le_of_ble_eq_true rfl, Nat.le_of_ble_eq_true rfl⟩ ⟨Nat.le_refl 0, Nat.le_refl 0⟩ rfl hl.1 rfl (Nat.le_of_ble_eq_true rfl) d_Mo_find_260 (fun H locs hw => ?_)
  refine lv_bipush (v := (12 : Int32)) hx hb d_Mo_find_263 (by decide) ?_
  refine lv_lshl (v := (z_lshl r29 (12 : Int32))) hx hb d_Mo_find_265 rfl ?_
  obtain ⟨n30, en30, h⟩ := ok_n h
  refine z_tl en30 ?_
  refine lv_lstore (lv' := [(5, .long n30), (9, .int t0), (0, .ref (ad 0)), (1, .long x1), (3, .int x3), (4, .int x4), (7, .int x7), (8, .int x8), (10, .int x10), (11, .long x11), (14, .int x14)]) hx hb d_Mo_find_266 hl (by decide) rfl (fun ls hl => ?_)
  refine lv_iload hx hb d_Mo_find_268 (lv_at hl 10 rfl) ?_
  refine lv_if_ne (tgt := 278) hx hb d_Mo_find_270 (by decide) (fun c31 => ?_) (fun c31 => ?_)
  · have h := ok_f h c31
    exact w_Mo_find_278 o C0 q ih71 hi71 x1 x3 x4 n30 x7 x8 t0 x10 x11 h H locs ls hw (lv_sub hl [2, 3, 4, 5, 0, 6, 7, 1, 8, 9] rfl)
  · have h := ok_t h c31
    refine lv_iload hx hb d_Mo_find_273 (lv_at hl 8 rfl) ?_
    refine lv_if_ne (tgt := 282) hx hb d_Mo_find_275 (by decide) (fun c34 => ?_) (fun c34 => ?_)
    · have h := ok_f h c34
      refine lv_iconst (v := (0 : Int32)) hx hb d_Mo_find_282 (by decide) ?_
      exact w_Mo_find_283 o C0 q ih71 hi71 x1 x3 x4 n30 x7 x8 t0 x10 x11 (0 : Int32) h H locs ls hw (lv_sub hl [2, 3, 4, 5, 0, 6, 7, 1, 8, 9] rfl)
    · have h := ok_t h c34
      exact w_Mo_find_278 o C0 q ih71 hi71 x1 x3 x4 n30 x7 x8 t0 x10 x11 h H locs ls hw (lv_sub hl [2, 3, 4, 5, 0, 6, 7, 1, 8, 9] rfl)
set_option maxHeartbeats 4000000 in
set_option maxRecDepth 100000 in
theorem w_Mo_find_251 {p : Program} {l : Launch} {e : Env} {s : State} {m : MethodId} {args : Array Value} {below : List Frame} {meth : Method} {c : Code} {D : va_G} {A : Nat → Prop} {ad : Nat → Nat} {ca : Nat → ClassId} (o : (Int64 × z_Sg)) (C0 : z_cx z_RMo b_Mo_find 15 (some .long) D (z_Mt ca) A p s m args meth c) (q : z_Sg) (ih71 : Int64 × Int32 × Int32 × Int64 × Int32 × Int32 × Int32 × Int32 × Int64 × Int32 × z_Sg → Option (Int64 × z_Sg)) (hi71 : ∀ a : Int64 × Int32 × Int32 × Int64 × Int32 × Int32 × Int32 × Int32 × Int64 × Int32 × z_Sg, ih71 a = some o → ∀ (H : Heap) (locs : List Loc) (ls : Array Slot), z_wd D (z_M ad ca a.2.2.2.2.2.2.2.2.2.2) A s H locs → lv_has ls 15 [(0, .ref (ad 0)), (1, .long a.1), (3, .int a.2.1), (4, .int a.2.2.1), (5, .long a.2.2.2.1), (7, .int a.2.2.2.2.1), (8, .int a.2.2.2.2.2.1), (9, .int a.2.2.2.2.2.2.1), (10, .int a.2.2.2.2.2.2.2.1), (11, .long a.2.2.2.2.2.2.2.2.1), (13, .int a.2.2.2.2.2.2.2.2.2.1)] → W p l e (z_rm 2 47) s m args below meth c H locs 0 0 (z_ql below D (z_Mt ca) (z_M ad ca o.2) A s args o.1) (F0 m 71 ls [])) (x1 : Int64) (x3 : Int32) (x4 : Int32) (x7 : Int32) (x8 : Int32) (x10 : Int32) (x11 : Int64) (x14 : Int32) (h : k_Mo_find_251 ih71 x1 x3 x4 x7 x8 x10 x11 x14 q = some o) : ∀ (H : Heap) (locs : List Loc) (ls : Array Slot), z_wd D (z_M ad ca q) A s H locs → lv_has ls 15 [(0, .ref (ad 0)), (1, .long x1), (3, .int x3), (4, .int x4), (7, .int x7), (8, .int x8), (10, .int x10), (11, .long x11), (14, .int x14)] → W p l e (z_rm 2 47) s m args below meth c H locs 0 0 (z_ql below D (z_Mt ca) (z_M ad ca o.2) A s args o.1) (F0 m 251 ls []) := by
  obtain ⟨hx, hb, hr, hlk, hml, hown, hts, hK, hA⟩ := id C0
  intro H locs ls hw hl
  refine lv_iconst (v := (0 : Int32)) hx hb d_Mo_find_251 (by decide) ?_
  exact w_Mo_find_252 o C0 q ih71 hi71 x1 x3 x4 x7 x8 x10 x11 x14 (0 : Int32) h H locs ls hw (lv_sub hl [0, 1, 2, 3, 4, 5, 6, 7, 8] rfl)
set_option maxHeartbeats 4000000 in
set_option maxRecDepth 100000 in
theorem w_Mo_find_233 {p : Program} {l : Launch} {e : Env} {s : State} {m : MethodId} {args : Array Value} {below : List Frame} {meth : Method} {c : Code} {D : va_G} {A : Nat → Prop} {ad : Nat → Nat} {ca : Nat → ClassId} (o : (Int64 × z_Sg)) (C0 : z_cx z_RMo b_Mo_find 15 (some .long) D (z_Mt ca) A p s m args meth c) (q : z_Sg) (ih71 : Int64 × Int32 × Int32 × Int64 × Int32 × Int32 × Int32 × Int32 × Int64 × Int32 × z_Sg → Option (Int64 × z_Sg)) (hi71 : ∀ a : Int64 × Int32 × Int32 × Int64 × Int32 × Int32 × Int32 × Int32 × Int64 × Int32 × z_Sg, ih71 a = some o → ∀ (H : Heap) (locs : List Loc) (ls : Array Slot), z_wd D (z_M ad ca a.2.2.2.2.2.2.2.2.2.2) A s H locs → lv_has ls 15 [(0, .ref (ad 0)), (1, .long a.1), (3, .int a.2.1), (4, .int a.2.2.1), (5, .long a.2.2.2.1), (7, .int a.2.2.2.2.1), (8, .int a.2.2.2.2.2.1), (9, .int a.2.2.2.2.2.2.1), (10, .int a.2.2.2.2.2.2.2.1), (11, .long a.2.2.2.2.2.2.2.2.1), (13, .int a.2.2.2.2.2.2.2.2.2.1)] → W p l e (z_rm 2 47) s m args below meth c H locs 0 0 (z_ql below D (z_Mt ca) (z_M ad ca o.2) A s args o.1) (F0 m 71 ls [])) (x1 : Int64) (x3 : Int32) (x4 : Int32) (x7 : Int32) (x9 : Int32) (x10 : Int32) (x11 : Int64) (x14 : Int32) (t0 : Int32) (h : k_Mo_find_233 ih71 x1 x3 x4 x7 x9 x10 x11 x14 t0 q = some o) : ∀ (H : Heap) (locs : List Loc) (ls : Array Slot), z_wd D (z_M ad ca q) A s H locs → lv_has ls 15 [(0, .ref (ad 0)), (1, .long x1), (3, .int x3), (4, .int x4), (7, .int x7), (9, .int x9), (10, .int x10), (11, .long x11), (14, .int x14)] → W p l e (z_rm 2 47) s m args below meth c H locs 0 0 (z_ql below D (z_Mt ca) (z_M ad ca o.2) A s args o.1) (F0 m 233 ls [.int t0]) := by
  obtain ⟨hx, hb, hr, hlk, hml, hown, hts, hK, hA⟩ := id C0
  intro H locs ls hw hl
  refine lv_istore (lv' := [(8, .int t0), (0, .ref (ad 0)), (1, .long x1), (3, .int x3), (4, .int x4), (7, .int x7), (9, .int x9), (10, .int x10), (11, .long x11), (14, .int x14)]) hx hb d_Mo_find_233 hl (by decide) rfl (fun ls hl => ?_)
  refine lv_iload hx hb d_Mo_find_235 (lv_at hl 6 rfl) ?_
  refine lv_if_eq (tgt := 251) hx hb d_Mo_find_237 (by decide) (fun c28 => ?_) (fun c28 => ?_)
  · have h := ok_t h c28
    exact w_Mo_find_251 o C0 q ih71 hi71 x1 x3 x4 x7 t0 x10 x11 x14 h H locs ls hw (lv_sub hl [1, 2, 3, 4, 5, 0, 7, 8, 9] rfl)
  · have h := ok_f h c28
    refine lv_lload hx hb d_Mo_find_240 (lv_at hl 8 rfl) ?_
    refine lv_lconst (v := (0 : Int64)) hx hb d_Mo_find_242 (by decide) ?_
    refine W.lcmp hx hb d_Mo_find_243 ?_
    refine lv_if_lt (tgt := 251) hx hb d_Mo_find_244 (by decide) (fun c35 => ?_) (fun c35 => ?_)
    · have h := ok_t h ((lg_cmp_lt _ _).mp c35)
      exact w_Mo_find_251 o C0 q ih71 hi71 x1 x3 x4 x7 t0 x10 x11 x14 h H locs ls hw (lv_sub hl [1, 2, 3, 4, 5, 0, 7, 8, 9] rfl)
    · have h := ok_f h (fun z => c35 ((lg_cmp_lt _ _).mpr z))
      refine lv_iconst (v := (1 : Int32)) hx hb d_Mo_find_247 (by decide) ?_
      refine lv_goto (tgt := 252) hx hb d_Mo_find_248 (by decide) ?_
      exact w_Mo_find_252 o C0 q ih71 hi71 x1 x3 x4 x7 t0 x10 x11 x14 (1 : Int32) h H locs ls hw (lv_sub hl [1, 2, 3, 4, 5, 0, 7, 8, 9] rfl)
set_option maxHeartbeats 4000000 in
set_option maxRecDepth 100000 in
theorem w_Mo_find_232 {p : Program} {l : Launch} {e : Env} {s : State} {m : MethodId} {args : Array Value} {below : List Frame} {meth : Method} {c : Code} {D : va_G} {A : Nat → Prop} {ad : Nat → Nat} {ca : Nat → ClassId} (o : (Int64 × z_Sg)) (C0 : z_cx z_RMo b_Mo_find 15 (some .long) D (z_Mt ca) A p s m args meth c) (q : z_Sg) (ih71 : Int64 × Int32 × Int32 × Int64 × Int32 × Int32 × Int32 × Int32 × Int64 × Int32 × z_Sg → Option (Int64 × z_Sg)) (hi71 : ∀ a : Int64 × Int32 × Int32 × Int64 × Int32 × Int32 × Int32 × Int32 × Int64 × Int32 × z_Sg, ih71 a = some o → ∀ (H : Heap) (locs : List Loc) (ls : Array Slot), z_wd D (z_M ad ca a.2.2.2.2.2.2.2.2.2.2) A s H locs → lv_has ls 15 [(0, .ref (ad 0)), (1, .long a.1), (3, .int a.2.1), (4, .int a.2.2.1), (5, .long a.2.2.2.1), (7, .int a.2.2.2.2.1), (8, .int a.2.2.2.2.2.1), (9, .int a.2.2.2.2.2.2.1), (10, .int a.2.2.2.2.2.2.2.1), (11, .long a.2.2.2.2.2.2.2.2.1), (13, .int a.2.2.2.2.2.2.2.2.2.1)] → W p l e (z_rm 2 47) s m args below meth c H locs 0 0 (z_ql below D (z_Mt ca) (z_M ad ca o.2) A s args o.1) (F0 m 71 ls [])) (x1 : Int64) (x3 : Int32) (x4 : Int32) (x7 : Int32) (x9 : Int32) (x10 : Int32) (x11 : Int64) (x14 : Int32) (h : k_Mo_find_232 ih71 x1 x3 x4 x7 x9 x10 x11 x14 q = some o) : ∀ (H : Heap) (locs : List Loc) (ls : Array Slot), z_wd D (z_M ad ca q) A s H locs → lv_has ls 15 [(0, .ref (ad 0)), (1, .long x1), (3, .int x3), (4, .int x4), (7, .int x7), (9, .int x9), (10, .int x10), (11, .long x11), (14, .int x14)] → W p l e (z_rm 2 47) s m args below meth c H locs 0 0 (z_ql below D (z_Mt ca) (z_M ad ca o.2) A s args o.1) (F0 m 232 ls []) := by
  obtain ⟨hx, hb, hr, hlk, hml, hown, hts, hK, hA⟩ := id C0
  intro H locs ls hw hl
  refine lv_iconst (v := (0 : Int32)) hx hb d_Mo_find_232 (by decide) ?_
  exact w_Mo_find_233 o C0 q ih71 hi71 x1 x3 x4 x7 x9 x10 x11 x14 (0 : Int32) h H locs ls hw (lv_sub hl [0, 1, 2, 3, 4, 5, 6, 7, 8] rfl)
set_option maxHeartbeats 4000000 in
set_option maxRecDepth 100000 in
theorem w_Mo_find_210 {p : Program} {l : Launch} {e : Env} {s : State} {m : MethodId} {args : Array Value} {below : List Frame} {meth : Method} {c : Code} {D : va_G} {A : Nat → Prop} {ad : Nat → Nat} {ca : Nat → ClassId} (o : (Int64 × z_Sg)) (C0 : z_cx z_RMo b_Mo_find 15 (some .long) D (z_Mt ca) A p s m args meth c) (q : z_Sg) (ih71 : Int64 × Int32 × Int32 × Int64 × Int32 × Int32 × Int32 × Int32 × Int64 × Int32 × z_Sg → Option (Int64 × z_Sg)) (hi71 : ∀ a : Int64 × Int32 × Int32 × Int64 × Int32 × Int32 × Int32 × Int32 × Int64 × Int32 × z_Sg, ih71 a = some o → ∀ (H : Heap) (locs : List Loc) (ls : Array Slot), z_wd D (z_M ad ca a.2.2.2.2.2.2.2.2.2.2) A s H locs → lv_has ls 15 [(0, .ref (ad 0)), (1, .long a.1), (3, .int a.2.1), (4, .int a.2.2.1), (5, .long a.2.2.2.1), (7, .int a.2.2.2.2.1), (8, .int a.2.2.2.2.2.1), (9, .int a.2.2.2.2.2.2.1), (10, .int a.2.2.2.2.2.2.2.1), (11, .long a.2.2.2.2.2.2.2.2.1), (13, .int a.2.2.2.2.2.2.2.2.2.1)] → W p l e (z_rm 2 47) s m args below meth c H locs 0 0 (z_ql below D (z_Mt ca) (z_M ad ca o.2) A s args o.1) (F0 m 71 ls [])) (x1 : Int64) (x3 : Int32) (x4 : Int32) (x8 : Int32) (x9 : Int32) (x10 : Int32) (x11 : Int64) (x14 : Int32) (t0 : Int32) (h : k_Mo_find_210 ih71 x1 x3 x4 x8 x9 x10 x11 x14 t0 q = some o) : ∀ (H : Heap) (locs : List Loc) (ls : Array Slot), z_wd D (z_M ad ca q) A s H locs → lv_has ls 15 [(0, .ref (ad 0)), (1, .long x1), (3, .int x3), (4, .int x4), (8, .int x8), (9, .int x9), (10, .int x10), (11, .long x11), (14, .int x14)] → W p l e (z_rm 2 47) s m args below meth c H locs 0 0 (z_ql below D (z_Mt ca) (z_M ad ca o.2) A s args o.1) (F0 m 210 ls [.int t0]) := by
  obtain ⟨hx, hb, hr, hlk, hml, hown, hts, hK, hA⟩ := id C0
  intro H locs ls hw hl
  refine lv_istore (lv' := [(7, .int t0), (0, .ref (ad 0)), (1, .long x1), (3, .int x3), (4, .int x4), (8, .int x8), (9, .int x9), (10, .int x10), (11, .long x11), (14, .int x14)]) hx hb d_Mo_find_210 hl (by decide) rfl (fun ls hl => ?_)
  refine lv_iload hx hb d_Mo_find_212 (lv_at hl 5 rfl) ?_
  refine lv_if_eq (tgt := 232) hx hb d_Mo_find_214 (by decide) (fun c27 => ?_) (fun c27 => ?_)
  · have h := ok_t h c27
    exact w_Mo_find_232 o C0 q ih71 hi71 x1 x3 x4 t0 x9 x10 x11 x14 h H locs ls hw (lv_sub hl [1, 2, 3, 4, 0, 6, 7, 8, 9] rfl)
  · have h := ok_f h c27
    refine lv_lload hx hb d_Mo_find_217 (lv_at hl 8 rfl) ?_
    refine lv_ldc2 (own := z_RMo) hx hb hown (hts _ kl_Mo_75) d_Mo_find_219 ?_
    refine lv_land hx hb d_Mo_find_222 ?_
    refine lv_lconst (v := (0 : Int64)) hx hb d_Mo_find_223 (by decide) ?_
    refine W.lcmp hx hb d_Mo_find_224 ?_
    refine lv_if_eq (tgt := 232) hx hb d_Mo_find_225 (by decide) (fun c36 => ?_) (fun c36 => ?_)
    · have h := ok_t h ((lg_cmp_eq _ _).mp c36)
      exact w_Mo_find_232 o C0 q ih71 hi71 x1 x3 x4 t0 x9 x10 x11 x14 h H locs ls hw (lv_sub hl [1, 2, 3, 4, 0, 6, 7, 8, 9] rfl)
    · have h := ok_f h (fun z => c36 ((lg_cmp_eq _ _).mpr z))
      refine lv_iconst (v := (1 : Int32)) hx hb d_Mo_find_228 (by decide) ?_
      refine lv_goto (tgt := 233) hx hb d_Mo_find_229 (by decide) ?_
      exact w_Mo_find_233 o C0 q ih71 hi71 x1 x3 x4 t0 x9 x10 x11 x14 (1 : Int32) h H locs ls hw (lv_sub hl [1, 2, 3, 4, 0, 6, 7, 8, 9] rfl)
set_option maxHeartbeats 4000000 in
set_option maxRecDepth 100000 in
theorem w_Mo_find_209 {p : Program} {l : Launch} {e : Env} {s : State} {m : MethodId} {args : Array Value} {below : List Frame} {meth : Method} {c : Code} {D : va_G} {A : Nat → Prop} {ad : Nat → Nat} {ca : Nat → ClassId} (o : (Int64 × z_Sg)) (C0 : z_cx z_RMo b_Mo_find 15 (some .long) D (z_Mt ca) A p s m args meth c) (q : z_Sg) (ih71 : Int64 × Int32 × Int32 × Int64 × Int32 × Int32 × Int32 × Int32 × Int64 × Int32 × z_Sg → Option (Int64 × z_Sg)) (hi71 : ∀ a : Int64 × Int32 × Int32 × Int64 × Int32 × Int32 × Int32 × Int32 × Int64 × Int32 × z_Sg, ih71 a = some o → ∀ (H : Heap) (locs : List Loc) (ls : Array Slot), z_wd D (z_M ad ca a.2.2.2.2.2.2.2.2.2.2) A s H locs → lv_has ls 15 [(0, .ref (ad 0)), (1, .long a.1), (3, .int a.2.1), (4, .int a.2.2.1), (5, .long a.2.2.2.1), (7, .int a.2.2.2.2.1), (8, .int a.2.2.2.2.2.1), (9, .int a.2.2.2.2.2.2.1), (10, .int a.2.2.2.2.2.2.2.1), (11, .long a.2.2.2.2.2.2.2.2.1), (13, .int a.2.2.2.2.2.2.2.2.2.1)] → W p l e (z_rm 2 47) s m args below meth c H locs 0 0 (z_ql below D (z_Mt ca) (z_M ad ca o.2) A s args o.1) (F0 m 71 ls [])) (x1 : Int64) (x3 : Int32) (x4 : Int32) (x8 : Int32) (x9 : Int32) (x10 : Int32) (x11 : Int64) (x14 : Int32) (h : k_Mo_find_209 ih71 x1 x3 x4 x8 x9 x10 x11 x14 q = some o) : ∀ (H : Heap) (locs : List Loc) (ls : Array Slot), z_wd D (z_M ad ca q) A s H locs → lv_has ls 15 [(0, .ref (ad 0)), (1, .long x1), (3, .int x3), (4, .int x4), (8, .int x8), (9, .int x9), (10, .int x10), (11, .long x11), (14, .int x14)] → W p l e (z_rm 2 47) s m args below meth c H locs 0 0 (z_ql below D (z_Mt ca) (z_M ad ca o.2) A s args o.1) (F0 m 209 ls []) := by
  obtain ⟨hx, hb, hr, hlk, hml, hown, hts, hK, hA⟩ := id C0
  intro H locs ls hw hl
  refine lv_iconst (v := (0 : Int32)) hx hb d_Mo_find_209 (by decide) ?_
  exact w_Mo_find_210 o C0 q ih71 hi71 x1 x3 x4 x8 x9 x10 x11 x14 (0 : Int32) h H locs ls hw (lv_sub hl [0, 1, 2, 3, 4, 5, 6, 7, 8] rfl)
set_option maxHeartbeats 4000000 in
set_option maxRecDepth 100000 in
theorem w_Mo_find_189 {p : Program} {l : Launch} {e : Env} {s : State} {m : MethodId} {args : Array Value} {below : List Frame} {meth : Method} {c : Code} {D : va_G} {A : Nat → Prop} {ad : Nat → Nat} {ca : Nat → ClassId} (o : (Int64 × z_Sg)) (C0 : z_cx z_RMo b_Mo_find 15 (some .long) D (z_Mt ca) A p s m args meth c) (q : z_Sg) (ih71 : Int64 × Int32 × Int32 × Int64 × Int32 × Int32 × Int32 × Int32 × Int64 × Int32 × z_Sg → Option (Int64 × z_Sg)) (hi71 : ∀ a : Int64 × Int32 × Int32 × Int64 × Int32 × Int32 × Int32 × Int32 × Int64 × Int32 × z_Sg, ih71 a = some o → ∀ (H : Heap) (locs : List Loc) (ls : Array Slot), z_wd D (z_M ad ca a.2.2.2.2.2.2.2.2.2.2) A s H locs → lv_has ls 15 [(0, .ref (ad 0)), (1, .long a.1), (3, .int a.2.1), (4, .int a.2.2.1), (5, .long a.2.2.2.1), (7, .int a.2.2.2.2.1), (8, .int a.2.2.2.2.2.1), (9, .int a.2.2.2.2.2.2.1), (10, .int a.2.2.2.2.2.2.2.1), (11, .long a.2.2.2.2.2.2.2.2.1), (13, .int a.2.2.2.2.2.2.2.2.2.1)] → W p l e (z_rm 2 47) s m args below meth c H locs 0 0 (z_ql below D (z_Mt ca) (z_M ad ca o.2) A s args o.1) (F0 m 71 ls [])) (x1 : Int64) (x3 : Int32) (x4 : Int32) (x7 : Int32) (x8 : Int32) (x9 : Int32) (x10 : Int32) (x11 : Int64) (x14 : Int32) (h : k_Mo_find_189 ih71 x1 x3 x4 x7 x8 x9 x10 x11 x14 q = some o) : ∀ (H : Heap) (locs : List Loc) (ls : Array Slot), z_wd D (z_M ad ca q) A s H locs → lv_has ls 15 [(0, .ref (ad 0)), (1, .long x1), (3, .int x3), (4, .int x4), (7, .int x7), (8, .int x8), (9, .int x9), (10, .int x10), (11, .long x11), (14, .int x14)] → W p l e (z_rm 2 47) s m args below meth c H locs 0 0 (z_ql below D (z_Mt ca) (z_M ad ca o.2) A s args o.1) (F0 m 189 ls []) := by
  obtain ⟨hx, hb, hr, hlk, hml, hown, hts, hK, hA⟩ := id C0
  intro H locs ls hw hl
  refine lv_iload hx hb d_Mo_find_189 (lv_at hl 4 rfl) ?_
  refine lv_if_eq (tgt := 209) hx hb d_Mo_find_191 (by decide) (fun c26 => ?_) (fun c26 => ?_)
  · have h := ok_t h c26
    exact w_Mo_find_209 o C0 q ih71 hi71 x1 x3 x4 x8 x9 x10 x11 x14 h H locs ls hw (lv_sub hl [0, 1, 2, 3, 5, 6, 7, 8, 9] rfl)
  · have h := ok_f h c26
    refine lv_lload hx hb d_Mo_find_194 (lv_at hl 8 rfl) ?_
    refine lv_ldc2 (own := z_RMo) hx hb hown (hts _ kl_Mo_73) d_Mo_find_196 ?_
    refine lv_land hx hb d_Mo_find_199 ?_
    refine lv_lconst (v := (0 : Int64)) hx hb d_Mo_find_200 (by decide) ?_
    refine W.lcmp hx hb d_Mo_find_201 ?_
    refine lv_if_eq (tgt := 209) hx hb d_Mo_find_202 (by decide) (fun c37 => ?_) (fun c37 => ?_)
    · have h := ok_t h ((lg_cmp_eq _ _).mp c37)
      exact w_Mo_find_209 o C0 q ih71 hi71 x1 x3 x4 x8 x9 x10 x11 x14 h H locs ls hw (lv_sub hl [0, 1, 2, 3, 5, 6, 7, 8, 9] rfl)
    · have h := ok_f h (fun z => c37 ((lg_cmp_eq _ _).mpr z))
      refine lv_iconst (v := (1 : Int32)) hx hb d_Mo_find_205 (by decide) ?_
      refine lv_goto (tgt := 210) hx hb d_Mo_find_206 (by decide) ?_
      exact w_Mo_find_210 o C0 q ih71 hi71 x1 x3 x4 x8 x9 x10 x11 x14 (1 : Int32) h H locs ls hw (lv_sub hl [0, 1, 2, 3, 5, 6, 7, 8, 9] rfl)
set_option maxHeartbeats 4000000 in
set_option maxRecDepth 100000 in
theorem w_Mo_find_185 {p : Program} {l : Launch} {e : Env} {s : State} {m : MethodId} {args : Array Value} {below : List Frame} {meth : Method} {c : Code} {D : va_G} {A : Nat → Prop} {ad : Nat → Nat} {ca : Nat → ClassId} (o : (Int64 × z_Sg)) (C0 : z_cx z_RMo b_Mo_find 15 (some .long) D (z_Mt ca) A p s m args meth c) (q : z_Sg) (h : k_Mo_find_185 q = some o) : ∀ (H : Heap) (locs : List Loc) (ls : Array Slot), z_wd D (z_M ad ca q) A s H locs → lv_has ls 15 [] → W p l e (z_rm 2 47) s m args below meth c H locs 0 0 (z_ql below D (z_Mt ca) (z_M ad ca o.2) A s args o.1) (F0 m 185 ls []) := by
  obtain ⟨hx, hb, hr, hlk, hml, hown, hts, hK, hA⟩ := id C0
  intro H locs ls hw hl
  refine lv_ldc2 (own := z_RMo) hx hb hown (hts _ kl_Mo_71) d_Mo_find_185 ?_
  have ho := Option.some.inj h
  subst ho
  exact z_rtl C0 hw d_Mo_find_188
set_option maxHeartbeats 4000000 in
set_option maxRecDepth 100000 in
theorem w_Mo_find_130 {p : Program} {l : Launch} {e : Env} {s : State} {m : MethodId} {args : Array Value} {below : List Frame} {meth : Method} {c : Code} {D : va_G} {A : Nat → Prop} {ad : Nat → Nat} {ca : Nat → ClassId} (o : (Int64 × z_Sg)) (C0 : z_cx z_RMo b_Mo_find 15 (some .long) D (z_Mt ca) A p s m args meth c) (q : z_Sg) (ih71 : Int64 × Int32 × Int32 × Int64 × Int32 × Int32 × Int32 × Int32 × Int64 × Int32 × z_Sg → Option (Int64 × z_Sg)) (hi71 : ∀ a : Int64 × Int32 × Int32 × Int64 × Int32 × Int32 × Int32 × Int32 × Int64 × Int32 × z_Sg, ih71 a = some o → ∀ (H : Heap) (locs : List Loc) (ls : Array Slot), z_wd D (z_M ad ca a.2.2.2.2.2.2.2.2.2.2) A s H locs → lv_has ls 15 [(0, .ref (ad 0)), (1, .long a.1), (3, .int a.2.1), (4, .int a.2.2.1), (5, .long a.2.2.2.1), (7, .int a.2.2.2.2.1), (8, .int a.2.2.2.2.2.1), (9, .int a.2.2.2.2.2.2.1), (10, .int a.2.2.2.2.2.2.2.1), (11, .long a.2.2.2.2.2.2.2.2.1), (13, .int a.2.2.2.2.2.2.2.2.2.1)] → W p l e (z_rm 2 47) s m args below meth c H locs 0 0 (z_ql below D (z_Mt ca) (z_M ad ca o.2) A s args o.1) (F0 m 71 ls [])) (x1 : Int64) (x3 : Int32) (x4 : Int32) (x7 : Int32) (x8 : Int32) (x9 : Int32) (x10 : Int32) (x11 : Int64) (t0 : Int32) (h : k_Mo_find_130 ih71 x1 x3 x4 x7 x8 x9 x10 x11 t0 q = some o) : ∀ (H : Heap) (locs : List Loc) (ls : Array Slot), z_wd D (z_M ad ca q) A s H locs → lv_has ls 15 [(0, .ref (ad 0)), (1, .long x1), (3, .int x3), (4, .int x4), (7, .int x7), (8, .int x8), (9, .int x9), (10, .int x10), (11, .long x11)] → W p l e (z_rm 2 47) s m args below meth c H locs 0 0 (z_ql below D (z_Mt ca) (z_M ad ca o.2) A s args o.1) (F0 m 130 ls [.int t0]) := by
  obtain ⟨hx, hb, hr, hlk, hml, hown, hts, hK, hA⟩ := id C0
  intro H locs ls hw hl
  refine lv_istore (lv' := [(14, .int t0), (0, .ref (ad 0)), (1, .long x1), (3, .int x3), (4, .int x4), (7, .int x7), (8, .int x8), (9, .int x9), (10, .int x10), (11, .long x11)]) hx hb d_Mo_find_130 hl (by decide) rfl (fun ls hl => ?_)
  refine lv_aload_n hx hb d_Mo_find_132 rfl (lv_at hl 1 rfl) ?_
  refine lv_iload hx hb d_Mo_find_133 (lv_at hl 4 rfl) ?_
  refine pfM_0_lookCode C0 hw fl_Mo_68 d_Mo_find_135 (fun H locs hw => ?_)
  obtain ⟨q22, eq22, h⟩ := ok_n h
  rw [← eq22] at hw
  refine lv_lload hx hb d_Mo_find_138 (lv_at hl 9 rfl) ?_
  refine lv_lconst (v := (1 : Int64)) hx hb d_Mo_find_140 (by decide) ?_
  refine lv_land hx hb d_Mo_find_141 ?_
  refine lv_lconst (v := (0 : Int64)) hx hb d_Mo_find_142 (by decide) ?_
  refine W.lcmp hx hb d_Mo_find_143 ?_
  refine lv_if_ne (tgt := 151) hx hb d_Mo_find_144 (by decide) (fun c23 => ?_) (fun c23 => ?_)
  · have h := ok_f h (fun z => c23 ((lg_cmp_eq _ _).mpr z))
    refine lv_aload_n hx hb d_Mo_find_151 rfl (lv_at hl 1 rfl) ?_
    refine lv_iload hx hb d_Mo_find_152 (lv_at hl 4 rfl) ?_
    refine lv_bipush (v := (9 : Int32)) hx hb d_Mo_find_154 (by decide) ?_
    refine lv_iadd hx hb d_Mo_find_156 ?_
    refine pfM_0_lookCode C0 hw fl_Mo_68 d_Mo_find_157 (fun H locs hw => ?_)
    obtain ⟨q24, eq24, h⟩ := ok_n h
    rw [← eq24] at hw
    refine lv_iload hx hb d_Mo_find_160 (lv_at hl 0 rfl) ?_
    refine lv_if_eq (tgt := 189) hx hb d_Mo_find_162 (by decide) (fun c25 => ?_) (fun c25 => ?_)
    · have h := ok_t h c25
      exact w_Mo_find_189 o C0 q24 ih71 hi71 x1 x3 x4 x7 x8 x9 x10 x11 t0 h H locs ls hw (lv_sub hl [1, 2, 3, 4, 5, 6, 7, 8, 9, 0] rfl)
    · have h := ok_f h c25
      refine lv_iload hx hb d_Mo_find_165 (lv_at hl 8 rfl) ?_
      refine lv_iconst (v := (1 : Int32)) hx hb d_Mo_find_167 (by decide) ?_
      refine lv_icmp_gt (tgt := 185) hx hb d_Mo_find_168 (by decide) (fun c38 => ?_) (fun c38 => ?_)
      · have h := ok_t h c38
        exact w_Mo_find_185 o C0 q24 h H locs ls hw (lv_sub hl [] rfl)
      · have h := ok_f h c38
        refine lv_lload hx hb d_Mo_find_171 (lv_at hl 9 rfl) ?_
        refine lv_bipush (v := (13 : Int32)) hx hb d_Mo_find_173 (by decide) ?_
        refine lv_bipush (v := (20 : Int32)) hx hb d_Mo_find_175 (by decide) ?_
        obtain ⟨r39, er39, h⟩ := ok_b h
        refine z_sl (rest := []) C0 hw (c_Mo_bits x11 (13 : Int32) (20 : Int32) q24 r39 er39) mw_Mo_bits ml_Mo_56 ⟨Nat.le_of_ble_eq_true rfl, Nat.le_of_ble_eq_true rfl⟩ ⟨Nat.le_refl 0, Nat.le_refl 0⟩ rfl hl.1 rfl (Nat.le_of_ble_eq_true rfl) d_Mo_find_177 (fun H locs hw => ?_)
        refine lv_lconst (v := (0 : Int64)) hx hb d_Mo_find_180 (by decide) ?_
        refine W.lcmp hx hb d_Mo_find_181 ?_
        refine lv_if_eq (tgt := 189) hx hb d_Mo_find_182 (by decide) (fun c40 => ?_) (fun c40 => ?_)
        · have h := ok_t h ((lg_cmp_eq _ _).mp c40)
          exact w_Mo_find_189 o C0 q24 ih71 hi71 x1 x3 x4 x7 x8 x9 x10 x11 t0 h H locs ls hw (lv_sub hl [1, 2, 3, 4, 5, 6, 7, 8, 9, 0] rfl)
        · have h := ok_f h (fun z => c40 ((lg_cmp_eq _ _).mpr z))
          exact w_Mo_find_185 o C0 q24 h H locs ls hw (lv_sub hl [] rfl)
  · have h := ok_t h ((lg_cmp_eq _ _).mp c23)
    refine lv_ldc2 (own := z_RMo) hx hb hown (hts _ kl_Mo_71) d_Mo_find_147 ?_
    have ho := Option.some.inj h
    subst ho
    exact z_rtl C0 hw d_Mo_find_150
set_option maxHeartbeats 4000000 in
set_option maxRecDepth 100000 in
theorem w_Mo_find_129 {p : Program} {l : Launch} {e : Env} {s : State} {m : MethodId} {args : Array Value} {below : List Frame} {meth : Method} {c : Code} {D : va_G} {A : Nat → Prop} {ad : Nat → Nat} {ca : Nat → ClassId} (o : (Int64 × z_Sg)) (C0 : z_cx z_RMo b_Mo_find 15 (some .long) D (z_Mt ca) A p s m args meth c) (q : z_Sg) (ih71 : Int64 × Int32 × Int32 × Int64 × Int32 × Int32 × Int32 × Int32 × Int64 × Int32 × z_Sg → Option (Int64 × z_Sg)) (hi71 : ∀ a : Int64 × Int32 × Int32 × Int64 × Int32 × Int32 × Int32 × Int32 × Int64 × Int32 × z_Sg, ih71 a = some o → ∀ (H : Heap) (locs : List Loc) (ls : Array Slot), z_wd D (z_M ad ca a.2.2.2.2.2.2.2.2.2.2) A s H locs → lv_has ls 15 [(0, .ref (ad 0)), (1, .long a.1), (3, .int a.2.1), (4, .int a.2.2.1), (5, .long a.2.2.2.1), (7, .int a.2.2.2.2.1), (8, .int a.2.2.2.2.2.1), (9, .int a.2.2.2.2.2.2.1), (10, .int a.2.2.2.2.2.2.2.1), (11, .long a.2.2.2.2.2.2.2.2.1), (13, .int a.2.2.2.2.2.2.2.2.2.1)] → W p l e (z_rm 2 47) s m args below meth c H locs 0 0 (z_ql below D (z_Mt ca) (z_M ad ca o.2) A s args o.1) (F0 m 71 ls [])) (x1 : Int64) (x3 : Int32) (x4 : Int32) (x7 : Int32) (x8 : Int32) (x9 : Int32) (x10 : Int32) (x11 : Int64) (h : k_Mo_find_129 ih71 x1 x3 x4 x7 x8 x9 x10 x11 q = some o) : ∀ (H : Heap) (locs : List Loc) (ls : Array Slot), z_wd D (z_M ad ca q) A s H locs → lv_has ls 15 [(0, .ref (ad 0)), (1, .long x1), (3, .int x3), (4, .int x4), (7, .int x7), (8, .int x8), (9, .int x9), (10, .int x10), (11, .long x11)] → W p l e (z_rm 2 47) s m args below meth c H locs 0 0 (z_ql below D (z_Mt ca) (z_M ad ca o.2) A s args o.1) (F0 m 129 ls []) := by
  obtain ⟨hx, hb, hr, hlk, hml, hown, hts, hK, hA⟩ := id C0
  intro H locs ls hw hl
  refine lv_iconst (v := (0 : Int32)) hx hb d_Mo_find_129 (by decide) ?_
  exact w_Mo_find_130 o C0 q ih71 hi71 x1 x3 x4 x7 x8 x9 x10 x11 (0 : Int32) h H locs ls hw (lv_sub hl [0, 1, 2, 3, 4, 5, 6, 7, 8] rfl)
set_option maxHeartbeats 4000000 in
set_option maxRecDepth 100000 in
theorem wb_Mo_find_71 {p : Program} {l : Launch} {e : Env} {s : State} {m : MethodId} {args : Array Value} {below : List Frame} {meth : Method} {c : Code} {D : va_G} {A : Nat → Prop} {ad : Nat → Nat} {ca : Nat → ClassId} (o : (Int64 × z_Sg)) (C0 : z_cx z_RMo b_Mo_find 15 (some .long) D (z_Mt ca) A p s m args meth c) (q : z_Sg) (ih71 : Int64 × Int32 × Int32 × Int64 × Int32 × Int32 × Int32 × Int32 × Int64 × Int32 × z_Sg → Option (Int64 × z_Sg)) (hi71 : ∀ a : Int64 × Int32 × Int32 × Int64 × Int32 × Int32 × Int32 × Int32 × Int64 × Int32 × z_Sg, ih71 a = some o → ∀ (H : Heap) (locs : List Loc) (ls : Array Slot), z_wd D (z_M ad ca a.2.2.2.2.2.2.2.2.2.2) A s H locs → lv_has ls 15 [(0, .ref (ad 0)), (1, .long a.1), (3, .int a.2.1), (4, .int a.2.2.1), (5, .long a.2.2.2.1), (7, .int a.2.2.2.2.1), (8, .int a.2.2.2.2.2.1), (9, .int a.2.2.2.2.2.2.1), (10, .int a.2.2.2.2.2.2.2.1), (11, .long a.2.2.2.2.2.2.2.2.1), (13, .int a.2.2.2.2.2.2.2.2.2.1)] → W p l e (z_rm 2 47) s m args below meth c H locs 0 0 (z_ql below D (z_Mt ca) (z_M ad ca o.2) A s args o.1) (F0 m 71 ls [])) (x1 : Int64) (x3 : Int32) (x4 : Int32) (x5 : Int64) (x7 : Int32) (x8 : Int32) (x9 : Int32) (x10 : Int32) (x11 : Int64) (x13 : Int32) (h : kb_Mo_find_71 ih71 x1 x3 x4 x5 x7 x8 x9 x10 x11 x13 q = some o) : ∀ (H : Heap) (locs : List Loc) (ls : Array Slot), z_wd D (z_M ad ca q) A s H locs → lv_has ls 15 [(0, .ref (ad 0)), (1, .long x1), (3, .int x3), (4, .int x4), (5, .long x5), (7, .int x7), (8, .int x8), (9, .int x9), (10, .int x10), (11, .long x11), (13, .int x13)] → W p l e (z_rm 2 47) s m args below meth c H locs 0 0 (z_ql below D (z_Mt ca) (z_M ad ca o.2) A s args o.1) (F0 m 71 ls []) := by
  obtain ⟨hx, hb, hr, hlk, hml, hown, hts, hK, hA⟩ := id C0
  intro H locs ls hw hl
  refine lv_iload hx hb d_Mo_find_71 (lv_at hl 10 rfl) ?_
  refine lv_if_ne (tgt := 296) hx hb d_Mo_find_73 (by decide) (fun c7 => ?_) (fun c7 => ?_)
  · have h := ok_f h c7
    refine lv_aload_n hx hb d_Mo_find_296 rfl (lv_at hl 0 rfl) ?_
    refine lv_iload hx hb d_Mo_find_297 (lv_at hl 3 rfl) ?_
    refine lv_iconst (v := (1 : Int32)) hx hb d_Mo_find_299 (by decide) ?_
    refine lv_iadd hx hb d_Mo_find_300 ?_
    refine pfM_0_lookCode C0 hw fl_Mo_68 d_Mo_find_301 (fun H locs hw => ?_)
    obtain ⟨q8, eq8, h⟩ := ok_n h
    rw [← eq8] at hw
    refine lv_iload_n hx hb d_Mo_find_304 rfl (lv_at hl 2 rfl) ?_
    refine lv_iconst (v := (1 : Int32)) hx hb d_Mo_find_305 (by decide) ?_
    refine lv_icmp_ne (tgt := 314) hx hb d_Mo_find_306 (by decide) (fun c9 => ?_) (fun c9 => ?_)
    · have h := ok_f h c9
      exact w_Mo_find_314 o C0 q8 x1 x3 x5 x8 x9 x10 x11 h H locs ls hw (lv_sub hl [0, 1, 2, 4, 6, 7, 8, 9] rfl)
    · have h := ok_t h c9
      refine lv_iload hx hb d_Mo_find_309 (lv_at hl 5 rfl) ?_
      refine lv_if_eq (tgt := 336) hx hb d_Mo_find_311 (by decide) (fun c18 => ?_) (fun c18 => ?_)
      · have h := ok_t h c18
        exact w_Mo_find_336 o C0 q8 h H locs ls hw (lv_sub hl [] rfl)
      · have h := ok_f h c18
        exact w_Mo_find_314 o C0 q8 x1 x3 x5 x8 x9 x10 x11 h H locs ls hw (lv_sub hl [0, 1, 2, 4, 6, 7, 8, 9] rfl)
  · have h := ok_t h c7
    refine lv_aload_n hx hb d_Mo_find_76 rfl (lv_at hl 0 rfl) ?_
    refine lv_lload hx hb d_Mo_find_77 (lv_at hl 4 rfl) ?_
    refine lv_ldc2 (own := z_RMo) hx hb hown (hts _ kl_Mo_60) d_Mo_find_79 ?_
    refine lv_lload_n hx hb d_Mo_find_82 rfl (lv_at hl 1 rfl) ?_
    refine lv_bipush (v := (12 : Int32)) hx hb d_Mo_find_83 (by decide) ?_
    refine lv_bipush (v := (9 : Int32)) hx hb d_Mo_find_85 (by decide) ?_
    refine lv_iload hx hb d_Mo_find_87 (lv_at hl 8 rfl) ?_
    refine lv_imul hx hb d_Mo_find_89 ?_
    refine lv_iadd hx hb d_Mo_find_90 ?_
    refine lv_bipush (v := (20 : Int32)) hx hb d_Mo_find_91 (by decide) ?_
    refine lv_bipush (v := (9 : Int32)) hx hb d_Mo_find_93 (by decide) ?_
    refine lv_iload hx hb d_Mo_find_95 (lv_at hl 8 rfl) ?_
    refine lv_imul hx hb d_Mo_find_97 ?_
    refine lv_iadd hx hb d_Mo_find_98 ?_
    obtain ⟨r19, er19, h⟩ := ok_b h
    refine z_sl (rest := [.long (8 : Int64), .long x5, .ref (ad 0)]) C0 hw (c_Mo_bits x1 ((12 : Int32) + ((9 : Int32) * x10)) ((20 : Int32) + ((9 : Int32) * x10)) q r19 er19) mw_Mo_bits ml_Mo_56 ⟨Nat.le_of_ble_eq_true rfl, Nat.le_of_ble_eq_true rfl⟩ ⟨Nat.le_refl 0, Nat.le_refl 0⟩ rfl hl.1 rfl (Nat.le_of_ble_eq_true rfl) d_Mo_find_99 (fun H locs hw => ?_)
    refine lv_lmul hx hb d_Mo_find_102 ?_
    refine lv_ladd hx hb d_Mo_find_103 ?_
    obtain ⟨r20, er20, h⟩ := ok_b h
    refine z_vl (rest := []) C0 hw (c_Mo_eight (x5 + ((8 : Int64) * r19)) q r20 er20) mw_Mo_eight ml_Mo_62 0 rfl ⟨Nat.le_of_ble_eq_true rfl, Nat.le_of_ble_eq_true rfl⟩ ⟨Nat.le_refl 0, Nat.le_refl 0⟩ rfl hl.1 rfl (Nat.le_of_ble_eq_true rfl) d_Mo_find_104 (fun H locs hw => ?_)
    refine lv_lstore (lv' := [(11, .long r20), (0, .ref (ad 0)), (1, .long x1), (3, .int x3), (4, .int x4), (5, .long x5), (7, .int x7), (8, .int x8), (9, .int x9), (10, .int x10), (13, .int x13)]) hx hb d_Mo_find_107 hl (by decide) rfl (fun ls hl => ?_)
    refine lv_iload hx hb d_Mo_find_109 (lv_at hl 9 rfl) ?_
    refine lv_if_le (tgt := 129) hx hb d_Mo_find_111 (by decide) (fun c21 => ?_) (fun c21 => ?_)
    · have h := ok_t h c21
      exact w_Mo_find_129 o C0 q ih71 hi71 x1 x3 x4 x7 x8 x9 x10 r20 h H locs ls hw (lv_sub hl [1, 2, 3, 4, 6, 7, 8, 9, 0] rfl)
    · have h := ok_f h c21
      refine lv_lload hx hb d_Mo_find_114 (lv_at hl 0 rfl) ?_
      refine lv_ldc2 (own := z_RMo) hx hb hown (hts _ kl_Mo_66) d_Mo_find_116 ?_
      refine lv_land hx hb d_Mo_find_119 ?_
      refine lv_lconst (v := (0 : Int64)) hx hb d_Mo_find_120 (by decide) ?_
      refine W.lcmp hx hb d_Mo_find_121 ?_
      refine lv_if_eq (tgt := 129) hx hb d_Mo_find_122 (by decide) (fun c41 => ?_) (fun c41 => ?_)
      · have h := ok_t h ((lg_cmp_eq _ _).mp c41)
        exact w_Mo_find_129 o C0 q ih71 hi71 x1 x3 x4 x7 x8 x9 x10 r20 h H locs ls hw (lv_sub hl [1, 2, 3, 4, 6, 7, 8, 9, 0] rfl)
      · have h := ok_f h (fun z => c41 ((lg_cmp_eq _ _).mpr z))
        refine lv_iconst (v := (1 : Int32)) hx hb d_Mo_find_125 (by decide) ?_
        refine lv_goto (tgt := 130) hx hb d_Mo_find_126 (by decide) ?_
        exact w_Mo_find_130 o C0 q ih71 hi71 x1 x3 x4 x7 x8 x9 x10 r20 (1 : Int32) h H locs ls hw (lv_sub hl [1, 2, 3, 4, 6, 7, 8, 9, 0] rfl)
theorem w_Mo_find_71 {p : Program} {l : Launch} {e : Env} {s : State} {m : MethodId} {args : Array Value} {below : List Frame} {meth : Method} {c : Code} {D : va_G} {A : Nat → Prop} {ad : Nat → Nat} {ca : Nat → ClassId} (o : (Int64 × z_Sg)) (C0 : z_cx z_RMo b_Mo_find 15 (some .long) D (z_Mt ca) A p s m args meth c) (q : z_Sg) (x1 : Int64) (x3 : Int32) (x4 : Int32) (x5 : Int64) (x7 : Int32) (x8 : Int32) (x9 : Int32) (x10 : Int32) (x11 : Int64) (x13 : Int32) (h : k_Mo_find_71 x1 x3 x4 x5 x7 x8 x9 x10 x11 x13 q = some o) : ∀ (H : Heap) (locs : List Loc) (ls : Array Slot), z_wd D (z_M ad ca q) A s H locs → lv_has ls 15 [(0, .ref (ad 0)), (1, .long x1), (3, .int x3), (4, .int x4), (5, .long x5), (7, .int x7), (8, .int x8), (9, .int x9), (10, .int x10), (11, .long x11), (13, .int x13)] → W p l e (z_rm 2 47) s m args below meth c H locs 0 0 (z_ql below D (z_Mt ca) (z_M ad ca o.2) A s args o.1) (F0 m 71 ls []) := by
  have key : ∀ (n : Nat) (a : Int64 × Int32 × Int32 × Int64 × Int32 × Int32 × Int32 × Int32 × Int64 × Int32 × z_Sg), z_lo (fun ih71 a => kb_Mo_find_71 ih71 a.1 a.2.1 a.2.2.1 a.2.2.2.1 a.2.2.2.2.1 a.2.2.2.2.2.1 a.2.2.2.2.2.2.1 a.2.2.2.2.2.2.2.1 a.2.2.2.2.2.2.2.2.1 a.2.2.2.2.2.2.2.2.2.1 a.2.2.2.2.2.2.2.2.2.2) n a = some o → ∀ (H : Heap) (locs : List Loc) (ls : Array Slot), z_wd D (z_M ad ca a.2.2.2.2.2.2.2.2.2.2) A s H locs → lv_has ls 15 [(0, .ref (ad 0)), (1, .long a.1), (3, .int a.2.1), (4, .int a.2.2.1), (5, .long a.2.2.2.1), (7, .int a.2.2.2.2.1), (8, .int a.2.2.2.2.2.1), (9, .int a.2.2.2.2.2.2.1), (10, .int a.2.2.2.2.2.2.2.1), (11, .long a.2.2.2.2.2.2.2.2.1), (13, .int a.2.2.2.2.2.2.2.2.2.1)] → W p l e (z_rm 2 47) s m args below meth c H locs 0 0 (z_ql below D (z_Mt ca) (z_M ad ca o.2) A s args o.1) (F0 m 71 ls []) := by
    intro n
    induction n with
    | zero => intro a h; cases h
    | succ n ih => exact fun a h => wb_Mo_find_71 o C0 a.2.2.2.2.2.2.2.2.2.2 (z_lo (fun ih71 a => kb_Mo_find_71 ih71 a.1 a.2.1 a.2.2.1 a.2.2.2.1 a.2.2.2.2.1 a.2.2.2.2.2.1 a.2.2.2.2.2.2.1 a.2.2.2.2.2.2.2.1 a.2.2.2.2.2.2.2.2.1 a.2.2.2.2.2.2.2.2.2.1 a.2.2.2.2.2.2.2.2.2.2) n) ih a.1 a.2.1 a.2.2.1 a.2.2.2.1 a.2.2.2.2.1 a.2.2.2.2.2.1 a.2.2.2.2.2.2.1 a.2.2.2.2.2.2.2.1 a.2.2.2.2.2.2.2.2.1 a.2.2.2.2.2.2.2.2.2.1 h
  exact key 2000 (x1, x3, x4, x5, x7, x8, x9, x10, x11, x13, q) h
set_option maxHeartbeats 4000000 in
set_option maxRecDepth 100000 in
theorem w_Mo_find_34 {p : Program} {l : Launch} {e : Env} {s : State} {m : MethodId} {args : Array Value} {below : List Frame} {meth : Method} {c : Code} {D : va_G} {A : Nat → Prop} {ad : Nat → Nat} {ca : Nat → ClassId} (o : (Int64 × z_Sg)) (C0 : z_cx z_RMo b_Mo_find 15 (some .long) D (z_Mt ca) A p s m args meth c) (q : z_Sg) (x1 : Int64) (x3 : Int32) (t0 : Int32) (t1 : Int32) (h : k_Mo_find_34 x1 x3 t0 t1 q = some o) : ∀ (H : Heap) (locs : List Loc) (ls : Array Slot), z_wd D (z_M ad ca q) A s H locs → lv_has ls 15 [(0, .ref (ad 0)), (1, .long x1), (3, .int x3)] → W p l e (z_rm 2 47) s m args below meth c H locs 0 0 (z_ql below D (z_Mt ca) (z_M ad ca o.2) A s args o.1) (F0 m 34 ls [.int t1, .int t0]) := by
  obtain ⟨hx, hb, hr, hlk, hml, hown, hts, hK, hA⟩ := id C0
  intro H locs ls hw hl
  refine lv_iadd hx hb d_Mo_find_34 ?_
  obtain ⟨n4, en4, h⟩ := ok_n h
  refine z_ti en4 ?_
  refine lv_istore (lv' := [(4, .int n4), (0, .ref (ad 0)), (1, .long x1), (3, .int x3)]) hx hb d_Mo_find_35 hl (by decide) rfl (fun ls hl => ?_)
  refine lv_aload_n hx hb d_Mo_find_37 rfl (lv_at hl 1 rfl) ?_
  refine gfM_0_table C0 hw fl_Mo_52 d_Mo_find_38 ?_
  refine lv_bipush (v := (12 : Int32)) hx hb d_Mo_find_41 (by decide) ?_
  refine lv_bipush (v := (51 : Int32)) hx hb d_Mo_find_43 (by decide) ?_
  obtain ⟨r5, er5, h⟩ := ok_b h
  refine z_sl (rest := []) C0 hw (c_Mo_bits (z_gL q 1) (12 : Int32) (51 : Int32) q r5 er5) mw_Mo_bits ml_Mo_56 ⟨Nat.le_of_ble_eq_true rfl, Nat.le_of_ble_eq_true rfl⟩ ⟨Nat.le_refl 0, Nat.le_refl 0⟩ rfl hl.1 rfl (Nat.le_of_ble_eq_true rfl) d_Mo_find_45 (fun H locs hw => ?_)
  refine lv_bipush (v := (12 : Int32)) hx hb d_Mo_find_48 (by decide) ?_
  refine lv_lshl (v := (z_lshl r5 (12 : Int32))) hx hb d_Mo_find_50 rfl ?_
  obtain ⟨n6, en6, h⟩ := ok_n h
  refine z_tl en6 ?_
  refine lv_lstore (lv' := [(5, .long n6), (4, .int n4), (0, .ref (ad 0)), (1, .long x1), (3, .int x3)]) hx hb d_Mo_find_51 hl (by decide) rfl (fun ls hl => ?_)
  refine lv_iconst (v := (1 : Int32)) hx hb d_Mo_find_53 (by decide) ?_
  refine lv_istore (lv' := [(7, .int (1 : Int32)), (5, .long n6), (4, .int n4), (0, .ref (ad 0)), (1, .long x1), (3, .int x3)]) hx hb d_Mo_find_54 hl (by decide) rfl (fun ls hl => ?_)
  refine lv_iconst (v := (1 : Int32)) hx hb d_Mo_find_56 (by decide) ?_
  refine lv_istore (lv' := [(8, .int (1 : Int32)), (7, .int (1 : Int32)), (5, .long n6), (4, .int n4), (0, .ref (ad 0)), (1, .long x1), (3, .int x3)]) hx hb d_Mo_find_57 hl (by decide) rfl (fun ls hl => ?_)
  refine lv_iconst (v := (1 : Int32)) hx hb d_Mo_find_59 (by decide) ?_
  refine lv_istore (lv' := [(9, .int (1 : Int32)), (8, .int (1 : Int32)), (7, .int (1 : Int32)), (5, .long n6), (4, .int n4), (0, .ref (ad 0)), (1, .long x1), (3, .int x3)]) hx hb d_Mo_find_60 hl (by decide) rfl (fun ls hl => ?_)
  refine lv_iconst (v := (3 : Int32)) hx hb d_Mo_find_62 (by decide) ?_
  refine lv_istore (lv' := [(10, .int (3 : Int32)), (9, .int (1 : Int32)), (8, .int (1 : Int32)), (7, .int (1 : Int32)), (5, .long n6), (4, .int n4), (0, .ref (ad 0)), (1, .long x1), (3, .int x3)]) hx hb d_Mo_find_63 hl (by decide) rfl (fun ls hl => ?_)
  refine lv_lconst (v := (0 : Int64)) hx hb d_Mo_find_65 (by decide) ?_
  refine lv_lstore (lv' := [(11, .long (0 : Int64)), (10, .int (3 : Int32)), (9, .int (1 : Int32)), (8, .int (1 : Int32)), (7, .int (1 : Int32)), (5, .long n6), (4, .int n4), (0, .ref (ad 0)), (1, .long x1), (3, .int x3)]) hx hb d_Mo_find_66 hl (by decide) rfl (fun ls hl => ?_)
  refine lv_iconst (v := (0 : Int32)) hx hb d_Mo_find_68 (by decide) ?_
  refine lv_istore (lv' := [(13, .int (0 : Int32)), (11, .long (0 : Int64)), (10, .int (3 : Int32)), (9, .int (1 : Int32)), (8, .int (1 : Int32)), (7, .int (1 : Int32)), (5, .long n6), (4, .int n4), (0, .ref (ad 0)), (1, .long x1), (3, .int x3)]) hx hb d_Mo_find_69 hl (by decide) rfl (fun ls hl => ?_)
  exact w_Mo_find_71 o C0 q x1 x3 n4 n6 (1 : Int32) (1 : Int32) (1 : Int32) (3 : Int32) (0 : Int64) (0 : Int32) h H locs ls hw (lv_sub hl [8, 9, 10, 7, 6, 5, 4, 3, 2, 1, 0] rfl)
set_option maxHeartbeats 4000000 in
set_option maxRecDepth 100000 in
theorem w_Mo_find_22 {p : Program} {l : Launch} {e : Env} {s : State} {m : MethodId} {args : Array Value} {below : List Frame} {meth : Method} {c : Code} {D : va_G} {A : Nat → Prop} {ad : Nat → Nat} {ca : Nat → ClassId} (o : (Int64 × z_Sg)) (C0 : z_cx z_RMo b_Mo_find 15 (some .long) D (z_Mt ca) A p s m args meth c) (q : z_Sg) (x1 : Int64) (x3 : Int32) (t0 : Int32) (t1 : Int32) (h : k_Mo_find_22 x1 x3 t0 t1 q = some o) : ∀ (H : Heap) (locs : List Loc) (ls : Array Slot), z_wd D (z_M ad ca q) A s H locs → lv_has ls 15 [(0, .ref (ad 0)), (1, .long x1), (3, .int x3)] → W p l e (z_rm 2 47) s m args below meth c H locs 0 0 (z_ql below D (z_Mt ca) (z_M ad ca o.2) A s args o.1) (F0 m 22 ls [.int t1, .int t0]) := by
  obtain ⟨hx, hb, hr, hlk, hml, hown, hts, hK, hA⟩ := id C0
  intro H locs ls hw hl
  refine lv_iadd hx hb d_Mo_find_22 ?_
  refine lv_iload_n hx hb d_Mo_find_23 rfl (lv_at hl 2 rfl) ?_
  refine lv_iconst (v := (2 : Int32)) hx hb d_Mo_find_24 (by decide) ?_
  refine lv_icmp_ne (tgt := 33) hx hb d_Mo_find_25 (by decide) (fun c3 => ?_) (fun c3 => ?_)
  · have h := ok_f h c3
    refine lv_iconst (v := (0 : Int32)) hx hb d_Mo_find_33 (by decide) ?_
    exact w_Mo_find_34 o C0 q x1 x3 (t0 + t1) (0 : Int32) h H locs ls hw (lv_sub hl [0, 1, 2] rfl)
  · have h := ok_t h c3
    refine lv_bipush (v := (16 : Int32)) hx hb d_Mo_find_28 (by decide) ?_
    refine lv_goto (tgt := 34) hx hb d_Mo_find_30 (by decide) ?_
    exact w_Mo_find_34 o C0 q x1 x3 (t0 + t1) (16 : Int32) h H locs ls hw (lv_sub hl [0, 1, 2] rfl)
set_option maxHeartbeats 4000000 in
set_option maxRecDepth 100000 in
theorem w_Mo_find_10 {p : Program} {l : Launch} {e : Env} {s : State} {m : MethodId} {args : Array Value} {below : List Frame} {meth : Method} {c : Code} {D : va_G} {A : Nat → Prop} {ad : Nat → Nat} {ca : Nat → ClassId} (o : (Int64 × z_Sg)) (C0 : z_cx z_RMo b_Mo_find 15 (some .long) D (z_Mt ca) A p s m args meth c) (q : z_Sg) (x1 : Int64) (x3 : Int32) (t0 : Int32) (h : k_Mo_find_10 x1 x3 t0 q = some o) : ∀ (H : Heap) (locs : List Loc) (ls : Array Slot), z_wd D (z_M ad ca q) A s H locs → lv_has ls 15 [(0, .ref (ad 0)), (1, .long x1), (3, .int x3)] → W p l e (z_rm 2 47) s m args below meth c H locs 0 0 (z_ql below D (z_Mt ca) (z_M ad ca o.2) A s args o.1) (F0 m 10 ls [.int t0]) := by
  obtain ⟨hx, hb, hr, hlk, hml, hown, hts, hK, hA⟩ := id C0
  intro H locs ls hw hl
  refine lv_aload_n hx hb d_Mo_find_10 rfl (lv_at hl 0 rfl) ?_
  refine gfM_0_user C0 hw fl_Mo_48 d_Mo_find_11 ?_
  refine lv_if_eq (tgt := 21) hx hb d_Mo_find_14 (by decide) (fun c2 => ?_) (fun c2 => ?_)
  · have h := ok_t h c2
    refine lv_iconst (v := (0 : Int32)) hx hb d_Mo_find_21 (by decide) ?_
    exact w_Mo_find_22 o C0 q x1 x3 t0 (0 : Int32) h H locs ls hw (lv_sub hl [0, 1, 2] rfl)
  · have h := ok_f h c2
    refine lv_iconst (v := (4 : Int32)) hx hb d_Mo_find_17 (by decide) ?_
    refine lv_goto (tgt := 22) hx hb d_Mo_find_18 (by decide) ?_
    exact w_Mo_find_22 o C0 q x1 x3 t0 (4 : Int32) h H locs ls hw (lv_sub hl [0, 1, 2] rfl)
set_option maxHeartbeats 4000000 in
set_option maxRecDepth 100000 in
theorem c_Mo_find {l : Launch} {D : va_G} {ad : Nat → Nat} {ca : Nat → ClassId} (x1 : Int64) (x3 : Int32) (q : z_Sg) (o : (Int64 × z_Sg)) (h : f_Mo_find x1 x3 q = some o) : z_cl l y_Mo_find b_Mo_find 15 (some .long) 2 47 D (z_Mt ca) (z_M ad ca q) (z_M ad ca o.2) [.ref (ad 0), .long x1, .int x3] o.1 := by
  refine z_cl_of (own := z_RMo) (by decide) rfl ?_
  intro p e s m below meth c A C0 hw
  obtain ⟨hx, hb, hr, hlk, hml, hown, hts, hK, hA⟩ := id C0
  generalize hH : s.heap = H at hw ⊢
  generalize hlo : ([] : List Loc) = locs at hw ⊢
  refine z_entry (lv := [(0, .ref (ad 0)), (1, .long x1), (3, .int x3)]) (Nat.le_of_ble_eq_true rfl) rfl (fun ls hl => ?_)
  unfold f_Mo_find at h
  refine lv_iload_n hx hb d_Mo_find_0 rfl (lv_at hl 2 rfl) ?_
  refine lv_iconst (v := (1 : Int32)) hx hb d_Mo_find_1 (by decide) ?_
  refine lv_icmp_ne (tgt := 9) hx hb d_Mo_find_2 (by decide) (fun c1 => ?_) (fun c1 => ?_)
  · have h := ok_f h c1
    refine lv_iconst (v := (0 : Int32)) hx hb d_Mo_find_9 (by decide) ?_
    exact w_Mo_find_10 o C0 q x1 x3 (0 : Int32) h H locs ls hw (lv_sub hl [0, 1, 2] rfl)
  · have h := ok_t h c1
    refine lv_iconst (v := (2 : Int32)) hx hb d_Mo_find_5 (by decide) ?_
    refine lv_goto (tgt := 10) hx hb d_Mo_find_6 (by decide) ?_
    exact w_Mo_find_10 o C0 q x1 x3 (2 : Int32) h H locs ls hw (lv_sub hl [0, 1, 2] rfl)
def k_Mo_refuse_13 (q : z_Sg) : Option z_Sg :=
  some q
def f_Mo_refuse (x1 : Int32) (q : z_Sg) : Option z_Sg :=
  if (z_gI q 4) = (-1 : Int32) then (z_nm (z_sI q 4 x1) (fun q2 => k_Mo_refuse_13 q2)) else (k_Mo_refuse_13 q)
set_option maxHeartbeats 4000000 in
set_option maxRecDepth 100000 in
theorem w_Mo_refuse_13 {p : Program} {l : Launch} {e : Env} {s : State} {m : MethodId} {args : Array Value} {below : List Frame} {meth : Method} {c : Code} {D : va_G} {A : Nat → Prop} {ad : Nat → Nat} {ca : Nat → ClassId} (o : z_Sg) (C0 : z_cx z_RMo b_Mo_refuse 2 none D (z_Mt ca) A p s m args meth c) (q : z_Sg) (h : k_Mo_refuse_13 q = some o) : ∀ (H : Heap) (locs : List Loc) (ls : Array Slot), z_wd D (z_M ad ca q) A s H locs → lv_has ls 2 [] → W p l e (z_rm 0 0) s m args below meth c H locs 0 0 (z_qv below D (z_Mt ca) (z_M ad ca o) A s args) (F0 m 13 ls []) := by
  obtain ⟨hx, hb, hr, hlk, hml, hown, hts, hK, hA⟩ := id C0
  intro H locs ls hw hl
  have ho := Option.some.inj h
  subst ho
  exact z_rtv C0 hw d_Mo_refuse_13
set_option maxHeartbeats 4000000 in
set_option maxRecDepth 100000 in
theorem c_Mo_refuse {l : Launch} {D : va_G} {ad : Nat → Nat} {ca : Nat → ClassId} (x1 : Int32) (q : z_Sg) (o : z_Sg) (h : f_Mo_refuse x1 q = some o) : z_cv l y_Mo_refuse b_Mo_refuse 2 none 0 0 D (z_Mt ca) (z_M ad ca q) (z_M ad ca o) [.ref (ad 0), .int x1] := by
  refine z_cv_of (own := z_RMo) (by decide) rfl ?_
  intro p e s m below meth c A C0 hw
  obtain ⟨hx, hb, hr, hlk, hml, hown, hts, hK, hA⟩ := id C0
  generalize hH : s.heap = H at hw ⊢
  generalize hlo : ([] : List Loc) = locs at hw ⊢
  refine z_entry (lv := [(0, .ref (ad 0)), (1, .int x1)]) (Nat.le_of_ble_eq_true rfl) rfl (fun ls hl => ?_)
  unfold f_Mo_refuse at h
  refine lv_aload_n hx hb d_Mo_refuse_0 rfl (lv_at hl 0 rfl) ?_
  refine gfM_0_refused C0 hw fl_Mo_28 d_Mo_refuse_1 ?_
  refine lv_iconst (v := (-1 : Int32)) hx hb d_Mo_refuse_4 (by decide) ?_
  refine lv_icmp_ne (tgt := 13) hx hb d_Mo_refuse_5 (by decide) (fun c1 => ?_) (fun c1 => ?_)
  · have h := ok_f h c1
    exact w_Mo_refuse_13 o C0 q h H locs ls hw (lv_sub hl [] rfl)
  · have h := ok_t h c1
    refine lv_aload_n hx hb d_Mo_refuse_8 rfl (lv_at hl 0 rfl) ?_
    refine lv_iload_n hx hb d_Mo_refuse_9 rfl (lv_at hl 1 rfl) ?_
    refine pfM_0_refused C0 hw fl_Mo_28 d_Mo_refuse_10 (fun H locs hw => ?_)
    obtain ⟨q2, eq2, h⟩ := ok_n h
    rw [← eq2] at hw
    exact w_Mo_refuse_13 o C0 q2 h H locs ls hw (lv_sub hl [] rfl)
def k_Mo_lookUp_107 (q : z_Sg) : Option z_Sg :=
  some q
def k_Mo_lookUp_101 (ih3 : Int64 × Int32 × Int32 × Int32 × Int32 × z_Sg → Option z_Sg) (x1 : Int64) (x3 : Int32) (x4 : Int32) (x5 : Int32) (x6 : Int32) (q : z_Sg) : Option z_Sg :=
  z_nm (x6 + (1 : Int32)) (fun n13 => ih3 (x1, x3, x4, x5, n13, q))
def k_Mo_lookUp_41 (t1 : Int32) (q : z_Sg) : Option z_Sg :=
  (f_Mo_refuse t1 q).bind (fun r15 => some r15)
def kb_Mo_lookUp_3 (ih3 : Int64 × Int32 × Int32 × Int32 × Int32 × z_Sg → Option z_Sg) (x1 : Int64) (x3 : Int32) (x4 : Int32) (x5 : Int32) (x6 : Int32) (q : z_Sg) : Option z_Sg :=
  if x3 ≤ x6 then (k_Mo_lookUp_107 q) else (if (z_gI q 4) = (-1 : Int32) then ((f_Mo_isWrong (x1 + (x6.toInt64)) q).bind (fun r3 => if r3 = 0 then ((f_Mo_find (x1 + (x6.toInt64)) x4 q).bind (fun r5 => if z_bad x6 8 then none else (z_nm (z_sM r5.2 3 x6.toNatClampNeg r5.1) (fun q7 => if z_bad x6 8 then none else (if (z_gM q7 3 x6.toNatClampNeg) < (0 : Int64) then ((f_Mo_refuse (14 : Int32) q7).bind (fun r10 => z_nm (z_sL r10 5 (x1 + (x6.toInt64))) (fun q11 => z_nm (z_sI q11 0 (z_gI q11 1)) (fun q12 => k_Mo_lookUp_101 ih3 x1 x3 x4 x5 x6 q12)))) else (k_Mo_lookUp_101 ih3 x1 x3 x4 x5 x6 q7)))))) else (if x5 = 0 then (k_Mo_lookUp_41 (13 : Int32) q) else (k_Mo_lookUp_41 (12 : Int32) q)))) else (k_Mo_lookUp_107 q))
def k_Mo_lookUp_3 (x1 : Int64) (x3 : Int32) (x4 : Int32) (x5 : Int32) (x6 : Int32) (q : z_Sg) : Option z_Sg := z_lo (fun ih3 a => kb_Mo_lookUp_3 ih3 a.1 a.2.1 a.2.2.1 a.2.2.2.1 a.2.2.2.2.1 a.2.2.2.2.2) 2000 (x1, x3, x4, x5, x6, q)
def f_Mo_lookUp (x1 : Int64) (x3 : Int32) (x4 : Int32) (x5 : Int32) (q : z_Sg) : Option z_Sg :=
  k_Mo_lookUp_3 x1 x3 x4 x5 (0 : Int32) q
set_option maxHeartbeats 4000000 in
set_option maxRecDepth 100000 in
theorem w_Mo_lookUp_107 {p : Program} {l : Launch} {e : Env} {s : State} {m : MethodId} {args : Array Value} {below : List Frame} {meth : Method} {c : Code} {D : va_G} {A : Nat → Prop} {ad : Nat → Nat} {ca : Nat → ClassId} (o : z_Sg) (C0 : z_cx z_RMo b_Mo_lookUp 7 none D (z_Mt ca) A p s m args meth c) (q : z_Sg) (h : k_Mo_lookUp_107 q = some o) : ∀ (H : Heap) (locs : List Loc) (ls : Array Slot), z_wd D (z_M ad ca q) A s H locs → lv_has ls 7 [] → W p l e (z_rm 3 81) s m args below meth c H locs 0 0 (z_qv below D (z_Mt ca) (z_M ad ca o) A s args) (F0 m 107 ls []) := by
  obtain ⟨hx, hb, hr, hlk, hml, hown, hts, hK, hA⟩ := id C0
  intro H locs ls hw hl
  have ho := Option.some.inj h
  subst ho
  exact z_rtv C0 hw d_Mo_lookUp_107
set_option maxHeartbeats 4000000 in
set_option maxRecDepth 100000 in
theorem w_Mo_lookUp_101 {p : Program} {l : Launch} {e : Env} {s : State} {m : MethodId} {args : Array Value} {below : List Frame} {meth : Method} {c : Code} {D : va_G} {A : Nat → Prop} {ad : Nat → Nat} {ca : Nat → ClassId} (o : z_Sg) (C0 : z_cx z_RMo b_Mo_lookUp 7 none D (z_Mt ca) A p s m args meth c) (q : z_Sg) (ih3 : Int64 × Int32 × Int32 × Int32 × Int32 × z_Sg → Option z_Sg) (hi3 : ∀ a : Int64 × Int32 × Int32 × Int32 × Int32 × z_Sg, ih3 a = some o → ∀ (H : Heap) (locs : List Loc) (ls : Array Slot), z_wd D (z_M ad ca a.2.2.2.2.2) A s H locs → lv_has ls 7 [(0, .ref (ad 0)), (1, .long a.1), (3, .int a.2.1), (4, .int a.2.2.1), (5, .int a.2.2.2.1), (6, .int a.2.2.2.2.1)] → W p l e (z_rm 3 81) s m args below meth c H locs 0 0 (z_qv below D (z_Mt ca) (z_M ad ca o) A s args) (F0 m 3 ls [])) (x1 : Int64) (x3 : Int32) (x4 : Int32) (x5 : Int32) (x6 : Int32) (h : k_Mo_lookUp_101 ih3 x1 x3 x4 x5 x6 q = some o) : ∀ (H : Heap) (locs : List Loc) (ls : Array Slot), z_wd D (z_M ad ca q) A s H locs → lv_has ls 7 [(0, .ref (ad 0)), (1, .long x1), (3, .int x3), (4, .int x4), (5, .int x5), (6, .int x6)] → W p l e (z_rm 3 81) s m args below meth c H locs 0 0 (z_qv below D (z_Mt ca) (z_M ad ca o) A s args) (F0 m 101 ls []) := by
  obtain ⟨hx, hb, hr, hlk, hml, hown, hts, hK, hA⟩ := id C0
  intro H locs ls hw hl
  obtain ⟨n13, en13, h⟩ := ok_n h
  refine lv_iinc (v := n13) (lv' := [(6, .int n13), (0, .ref (ad 0)), (1, .long x1), (3, .int x3), (4, .int x4), (5, .int x5)]) hx hb d_Mo_lookUp_101 hl (k := 5) rfl (by rw [en13]; rfl) (by decide) rfl (fun ls hl => ?_)
  refine lv_goto (tgt := 3) hx hb d_Mo_lookUp_104 (by decide) ?_
  exact hi3 (x1, x3, x4, x5, n13, q) h H locs ls hw (lv_sub hl [1, 2, 3, 4, 5, 0] rfl)
set_option maxHeartbeats 4000000 in
set_option maxRecDepth 100000 in
theorem w_Mo_lookUp_41 {p : Program} {l : Launch} {e : Env} {s : State} {m : MethodId} {args : Array Value} {below : List Frame} {meth : Method} {c : Code} {D : va_G} {A : Nat → Prop} {ad : Nat → Nat} {ca : Nat → ClassId} (o : z_Sg) (C0 : z_cx z_RMo b_Mo_lookUp 7 none D (z_Mt ca) A p s m args meth c) (q : z_Sg) (t1 : Int32) (h : k_Mo_lookUp_41 t1 q = some o) : ∀ (H : Heap) (locs : List Loc) (ls : Array Slot), z_wd D (z_M ad ca q) A s H locs → lv_has ls 7 [] → W p l e (z_rm 3 81) s m args below meth c H locs 0 0 (z_qv below D (z_Mt ca) (z_M ad ca o) A s args) (F0 m 41 ls [.int t1, .ref (ad 0)]) := by
  obtain ⟨hx, hb, hr, hlk, hml, hown, hts, hK, hA⟩ := id C0
  intro H locs ls hw hl
  obtain ⟨r15, er15, h⟩ := ok_b h
  refine z_vv (rest := []) C0 hw (c_Mo_refuse t1 q r15 er15) mw_Mo_refuse ml_Mo_81 0 rfl ⟨Nat.le_of_ble_eq_true rfl, Nat.le_of_ble_eq_true rfl⟩ ⟨Nat.le_refl 0, Nat.le_refl 0⟩ rfl hl.1 rfl (Nat.le_of_ble_eq_true rfl) d_Mo_lookUp_41 (fun H locs hw => ?_)
  have ho := Option.some.inj h
  subst ho
  exact z_rtv C0 hw d_Mo_lookUp_44
set_option maxHeartbeats 4000000 in
set_option maxRecDepth 100000 in
theorem wb_Mo_lookUp_3 {p : Program} {l : Launch} {e : Env} {s : State} {m : MethodId} {args : Array Value} {below : List Frame} {meth : Method} {c : Code} {D : va_G} {A : Nat → Prop} {ad : Nat → Nat} {ca : Nat → ClassId} (o : z_Sg) (C0 : z_cx z_RMo b_Mo_lookUp 7 none D (z_Mt ca) A p s m args meth c) (q : z_Sg) (ih3 : Int64 × Int32 × Int32 × Int32 × Int32 × z_Sg → Option z_Sg) (hi3 : ∀ a : Int64 × Int32 × Int32 × Int32 × Int32 × z_Sg, ih3 a = some o → ∀ (H : Heap) (locs : List Loc) (ls : Array Slot), z_wd D (z_M ad ca a.2.2.2.2.2) A s H locs → lv_has ls 7 [(0, .ref (ad 0)), (1, .long a.1), (3, .int a.2.1), (4, .int a.2.2.1), (5, .int a.2.2.2.1), (6, .int a.2.2.2.2.1)] → W p l e (z_rm 3 81) s m args below meth c H locs 0 0 (z_qv below D (z_Mt ca) (z_M ad ca o) A s args) (F0 m 3 ls [])) (x1 : Int64) (x3 : Int32) (x4 : Int32) (x5 : Int32) (x6 : Int32) (h : kb_Mo_lookUp_3 ih3 x1 x3 x4 x5 x6 q = some o) : ∀ (H : Heap) (locs : List Loc) (ls : Array Slot), z_wd D (z_M ad ca q) A s H locs → lv_has ls 7 [(0, .ref (ad 0)), (1, .long x1), (3, .int x3), (4, .int x4), (5, .int x5), (6, .int x6)] → W p l e (z_rm 3 81) s m args below meth c H locs 0 0 (z_qv below D (z_Mt ca) (z_M ad ca o) A s args) (F0 m 3 ls []) := by
  obtain ⟨hx, hb, hr, hlk, hml, hown, hts, hK, hA⟩ := id C0
  intro H locs ls hw hl
  refine lv_iload hx hb d_Mo_lookUp_3 (lv_at hl 5 rfl) ?_
  refine lv_iload_n hx hb d_Mo_lookUp_5 rfl (lv_at hl 2 rfl) ?_
  refine lv_icmp_ge (tgt := 107) hx hb d_Mo_lookUp_6 (by decide) (fun c1 => ?_) (fun c1 => ?_)
  · have h := ok_t h c1
    exact w_Mo_lookUp_107 o C0 q h H locs ls hw (lv_sub hl [] rfl)
  · have h := ok_f h c1
    refine lv_aload_n hx hb d_Mo_lookUp_9 rfl (lv_at hl 0 rfl) ?_
    refine gfM_0_refused C0 hw fl_Mo_28 d_Mo_lookUp_10 ?_
    refine lv_iconst (v := (-1 : Int32)) hx hb d_Mo_lookUp_13 (by decide) ?_
    refine lv_icmp_ne (tgt := 107) hx hb d_Mo_lookUp_14 (by decide) (fun c2 => ?_) (fun c2 => ?_)
    · have h := ok_f h c2
      exact w_Mo_lookUp_107 o C0 q h H locs ls hw (lv_sub hl [] rfl)
    · have h := ok_t h c2
      refine lv_lload_n hx hb d_Mo_lookUp_17 rfl (lv_at hl 1 rfl) ?_
      refine lv_iload hx hb d_Mo_lookUp_18 (lv_at hl 5 rfl) ?_
      refine lv_i2l hx hb d_Mo_lookUp_20 rfl ?_
      refine lv_ladd hx hb d_Mo_lookUp_21 ?_
      obtain ⟨r3, er3, h⟩ := ok_b h
      refine z_si (rest := []) C0 hw (c_Mo_isWrong (x1 + (x6.toInt64)) q r3 er3) mw_Mo_isWrong ml_Mo_77 ⟨Nat.le_of_ble_eq_true rfl, Nat.le_of_ble_eq_true rfl⟩ ⟨Nat.le_refl 0, Nat.le_refl 0⟩ rfl hl.1 rfl (Nat.le_of_ble_eq_true rfl) d_Mo_lookUp_22 (fun H locs hw => ?_)
      refine lv_if_eq (tgt := 45) hx hb d_Mo_lookUp_25 (by decide) (fun c4 => ?_) (fun c4 => ?_)
      · have h := ok_t h c4
        refine lv_aload_n hx hb d_Mo_lookUp_45 rfl (lv_at hl 0 rfl) ?_
        refine gfM_0_lies C0 hw fl_Mo_39 d_Mo_lookUp_46 ?_
        refine lv_iload hx hb d_Mo_lookUp_49 (lv_at hl 5 rfl) ?_
        refine lv_aload_n hx hb d_Mo_lookUp_51 rfl (lv_at hl 0 rfl) ?_
        refine lv_lload_n hx hb d_Mo_lookUp_52 rfl (lv_at hl 1 rfl) ?_
        refine lv_iload hx hb d_Mo_lookUp_53 (lv_at hl 5 rfl) ?_
        refine lv_i2l hx hb d_Mo_lookUp_55 rfl ?_
        refine lv_ladd hx hb d_Mo_lookUp_56 ?_
        refine lv_iload hx hb d_Mo_lookUp_57 (lv_at hl 3 rfl) ?_
        obtain ⟨r5, er5, h⟩ := ok_b h
        refine z_vl (rest := [.int x6, .ref (ad 8)]) C0 hw (c_Mo_find (x1 + (x6.toInt64)) x4 q r5 er5) mw_Mo_find ml_Mo_85 0 rfl ⟨Nat.le_of_ble_eq_true rfl, Nat.le_of_ble_eq_true rfl⟩ ⟨Nat.le_refl 0, Nat.le_refl 0⟩ rfl hl.1 rfl (Nat.le_of_ble_eq_true rfl) d_Mo_lookUp_59 (fun H locs hw => ?_)
        obtain ⟨b6, h⟩ := ok_g h
        refine asM_8 C0 hw b6 d_Mo_lookUp_62 (fun H locs hw => ?_)
        obtain ⟨q7, eq7, h⟩ := ok_n h
        rw [← eq7] at hw
        refine lv_aload_n hx hb d_Mo_lookUp_63 rfl (lv_at hl 0 rfl) ?_
        refine gfM_0_lies C0 hw fl_Mo_39 d_Mo_lookUp_64 ?_
        refine lv_iload hx hb d_Mo_lookUp_67 (lv_at hl 5 rfl) ?_
        obtain ⟨b8, h⟩ := ok_g h
        refine alM_8 C0 hw b8 d_Mo_lookUp_69 ?_
        refine lv_lconst (v := (0 : Int64)) hx hb d_Mo_lookUp_70 (by decide) ?_
        refine W.lcmp hx hb d_Mo_lookUp_71 ?_
        refine lv_if_lt (tgt := 78) hx hb d_Mo_lookUp_72 (by decide) (fun c9 => ?_) (fun c9 => ?_)
        · have h := ok_t h ((lg_cmp_lt _ _).mp c9)
          refine lv_aload_n hx hb d_Mo_lookUp_78 rfl (lv_at hl 0 rfl) ?_
          refine lv_bipush (v := (14 : Int32)) hx hb d_Mo_lookUp_79 (by decide) ?_
          obtain ⟨r10, er10, h⟩ := ok_b h
          refine z_vv (rest := []) C0 hw (c_Mo_refuse (14 : Int32) q7 r10 er10) mw_Mo_refuse ml_Mo_81 0 rfl ⟨Nat.le_of_ble_eq_true rfl, Nat.le_of_ble_eq_true rfl⟩ ⟨Nat.le_refl 0, Nat.le_refl 0⟩ rfl hl.1 rfl (Nat.le_of_ble_eq_true rfl) d_Mo_lookUp_81 (fun H locs hw => ?_)
          refine lv_aload_n hx hb d_Mo_lookUp_84 rfl (lv_at hl 0 rfl) ?_
          refine lv_lload_n hx hb d_Mo_lookUp_85 rfl (lv_at hl 1 rfl) ?_
          refine lv_iload hx hb d_Mo_lookUp_86 (lv_at hl 5 rfl) ?_
          refine lv_i2l hx hb d_Mo_lookUp_88 rfl ?_
          refine lv_ladd hx hb d_Mo_lookUp_89 ?_
          refine pfM_0_fault C0 hw fl_Mo_89 d_Mo_lookUp_90 (fun H locs hw => ?_)
          obtain ⟨q11, eq11, h⟩ := ok_n h
          rw [← eq11] at hw
          refine lv_aload_n hx hb d_Mo_lookUp_93 rfl (lv_at hl 0 rfl) ?_
          refine lv_aload_n hx hb d_Mo_lookUp_94 rfl (lv_at hl 0 rfl) ?_
          refine gfM_0_lookCode C0 hw fl_Mo_68 d_Mo_lookUp_95 ?_
          refine pfM_0_code C0 hw fl_Mo_92 d_Mo_lookUp_98 (fun H locs hw => ?_)
          obtain ⟨q12, eq12, h⟩ := ok_n h
          rw [← eq12] at hw
          exact w_Mo_lookUp_101 o C0 q12 ih3 hi3 x1 x3 x4 x5 x6 h H locs ls hw (lv_sub hl [0, 1, 2, 3, 4, 5] rfl)
        · have h := ok_f h (fun z => c9 ((lg_cmp_lt _ _).mpr z))
          refine lv_goto (tgt := 101) hx hb d_Mo_lookUp_75 (by decide) ?_
          exact w_Mo_lookUp_101 o C0 q7 ih3 hi3 x1 x3 x4 x5 x6 h H locs ls hw (lv_sub hl [0, 1, 2, 3, 4, 5] rfl)
      · have h := ok_f h c4
        refine lv_aload_n hx hb d_Mo_lookUp_28 rfl (lv_at hl 0 rfl) ?_
        refine lv_iload hx hb d_Mo_lookUp_29 (lv_at hl 4 rfl) ?_
        refine lv_if_eq (tgt := 39) hx hb d_Mo_lookUp_31 (by decide) (fun c14 => ?_) (fun c14 => ?_)
        · have h := ok_t h c14
          refine lv_bipush (v := (13 : Int32)) hx hb d_Mo_lookUp_39 (by decide) ?_
          exact w_Mo_lookUp_41 o C0 q (13 : Int32) h H locs ls hw (lv_sub hl [] rfl)
        · have h := ok_f h c14
          refine lv_bipush (v := (12 : Int32)) hx hb d_Mo_lookUp_34 (by decide) ?_
          refine lv_goto (tgt := 41) hx hb d_Mo_lookUp_36 (by decide) ?_
          exact w_Mo_lookUp_41 o C0 q (12 : Int32) h H locs ls hw (lv_sub hl [] rfl)
theorem w_Mo_lookUp_3 {p : Program} {l : Launch} {e : Env} {s : State} {m : MethodId} {args : Array Value} {below : List Frame} {meth : Method} {c : Code} {D : va_G} {A : Nat → Prop} {ad : Nat → Nat} {ca : Nat → ClassId} (o : z_Sg) (C0 : z_cx z_RMo b_Mo_lookUp 7 none D (z_Mt ca) A p s m args meth c) (q : z_Sg) (x1 : Int64) (x3 : Int32) (x4 : Int32) (x5 : Int32) (x6 : Int32) (h : k_Mo_lookUp_3 x1 x3 x4 x5 x6 q = some o) : ∀ (H : Heap) (locs : List Loc) (ls : Array Slot), z_wd D (z_M ad ca q) A s H locs → lv_has ls 7 [(0, .ref (ad 0)), (1, .long x1), (3, .int x3), (4, .int x4), (5, .int x5), (6, .int x6)] → W p l e (z_rm 3 81) s m args below meth c H locs 0 0 (z_qv below D (z_Mt ca) (z_M ad ca o) A s args) (F0 m 3 ls []) := by
  have key : ∀ (n : Nat) (a : Int64 × Int32 × Int32 × Int32 × Int32 × z_Sg), z_lo (fun ih3 a => kb_Mo_lookUp_3 ih3 a.1 a.2.1 a.2.2.1 a.2.2.2.1 a.2.2.2.2.1 a.2.2.2.2.2) n a = some o → ∀ (H : Heap) (locs : List Loc) (ls : Array Slot), z_wd D (z_M ad ca a.2.2.2.2.2) A s H locs → lv_has ls 7 [(0, .ref (ad 0)), (1, .long a.1), (3, .int a.2.1), (4, .int a.2.2.1), (5, .int a.2.2.2.1), (6, .int a.2.2.2.2.1)] → W p l e (z_rm 3 81) s m args below meth c H locs 0 0 (z_qv below D (z_Mt ca) (z_M ad ca o) A s args) (F0 m 3 ls []) := by
    intro n
    induction n with
    | zero => intro a h; cases h
    | succ n ih => exact fun a h => wb_Mo_lookUp_3 o C0 a.2.2.2.2.2 (z_lo (fun ih3 a => kb_Mo_lookUp_3 ih3 a.1 a.2.1 a.2.2.1 a.2.2.2.1 a.2.2.2.2.1 a.2.2.2.2.2) n) ih a.1 a.2.1 a.2.2.1 a.2.2.2.1 a.2.2.2.2.1 h
  exact key 2000 (x1, x3, x4, x5, x6, q) h
set_option maxHeartbeats 4000000 in
set_option maxRecDepth 100000 in
theorem c_Mo_lookUp {l : Launch} {D : va_G} {ad : Nat → Nat} {ca : Nat → ClassId} (x1 : Int64) (x3 : Int32) (x4 : Int32) (x5 : Int32) (q : z_Sg) (o : z_Sg) (h : f_Mo_lookUp x1 x3 x4 x5 q = some o) : z_cv l y_Mo_lookUp b_Mo_lookUp 7 none 3 81 D (z_Mt ca) (z_M ad ca q) (z_M ad ca o) [.ref (ad 0), .long x1, .int x3, .int x4, .int x5] := by
  refine z_cv_of (own := z_RMo) (by decide) rfl ?_
  intro p e s m below meth c A C0 hw
  obtain ⟨hx, hb, hr, hlk, hml, hown, hts, hK, hA⟩ := id C0
  generalize hH : s.heap = H at hw ⊢
  generalize hlo : ([] : List Loc) = locs at hw ⊢
  refine z_entry (lv := [(0, .ref (ad 0)), (1, .long x1), (3, .int x3), (4, .int x4), (5, .int x5)]) (Nat.le_of_ble_eq_true rfl) rfl (fun ls hl => ?_)
  unfold f_Mo_lookUp at h
  refine lv_iconst (v := (0 : Int32)) hx hb d_Mo_lookUp_0 (by decide) ?_
  refine lv_istore (lv' := [(6, .int (0 : Int32)), (0, .ref (ad 0)), (1, .long x1), (3, .int x3), (4, .int x4), (5, .int x5)]) hx hb d_Mo_lookUp_1 hl (by decide) rfl (fun ls hl => ?_)
  exact w_Mo_lookUp_3 o C0 q x1 x3 x4 x5 (0 : Int32) h H locs ls hw (lv_sub hl [1, 2, 3, 4, 5, 0] rfl)
def k_Mo_fetch_23 (q : z_Sg) : Option (Int32 × z_Sg) :=
  (f_Mo_lookUp ((z_gL q 0) + ((z_gI q 6).toInt64)) (1 : Int32) (2 : Int32) (0 : Int32) q).bind (fun r2 => if (z_gI r2 4) = (-1 : Int32) then (z_nm (z_sI r2 6 ((z_gI r2 6) + (1 : Int32))) (fun q4 => if z_bad (0 : Int32) 8 then none else ((f_Mo_byteAt (z_gM q4 3 (0 : Int32).toNatClampNeg) q4).bind (fun r6 => some (r6, q4))))) else (some ((0 : Int32), r2)))
def f_Mo_fetch (q : z_Sg) : Option (Int32 × z_Sg) :=
  if (z_gI q 4) = (-1 : Int32) then (if (z_gI q 6) = (15 : Int32) then ((f_Mo_refuse (13 : Int32) q).bind (fun r8 => k_Mo_fetch_23 r8)) else (k_Mo_fetch_23 q)) else (k_Mo_fetch_23 q)
set_option maxHeartbeats 4000000 in
set_option maxRecDepth 100000 in
theorem w_Mo_fetch_23 {p : Program} {l : Launch} {e : Env} {s : State} {m : MethodId} {args : Array Value} {below : List Frame} {meth : Method} {c : Code} {D : va_G} {A : Nat → Prop} {ad : Nat → Nat} {ca : Nat → ClassId} (o : (Int32 × z_Sg)) (C0 : z_cx z_RMo b_Mo_fetch 1 (some .int) D (z_Mt ca) A p s m args meth c) (q : z_Sg) (h : k_Mo_fetch_23 q = some o) : ∀ (H : Heap) (locs : List Loc) (ls : Array Slot), z_wd D (z_M ad ca q) A s H locs → lv_has ls 1 [(0, .ref (ad 0))] → W p l e (z_rm 4 107) s m args below meth c H locs 0 0 (z_qi below D (z_Mt ca) (z_M ad ca o.2) A s args o.1) (F0 m 23 ls []) := by
  obtain ⟨hx, hb, hr, hlk, hml, hown, hts, hK, hA⟩ := id C0
  intro H locs ls hw hl
  refine lv_aload_n hx hb d_Mo_fetch_23 rfl (lv_at hl 0 rfl) ?_
  refine lv_aload_n hx hb d_Mo_fetch_24 rfl (lv_at hl 0 rfl) ?_
  refine gfM_0_next C0 hw fl_Mo_111 d_Mo_fetch_25 ?_
  refine lv_aload_n hx hb d_Mo_fetch_28 rfl (lv_at hl 0 rfl) ?_
  refine gfM_0_length C0 hw fl_Mo_108 d_Mo_fetch_29 ?_
  refine lv_i2l hx hb d_Mo_fetch_32 rfl ?_
  refine lv_ladd hx hb d_Mo_fetch_33 ?_
  refine lv_iconst (v := (1 : Int32)) hx hb d_Mo_fetch_34 (by decide) ?_
  refine lv_iconst (v := (2 : Int32)) hx hb d_Mo_fetch_35 (by decide) ?_
  refine lv_iconst (v := (0 : Int32)) hx hb d_Mo_fetch_36 (by decide) ?_
  obtain ⟨r2, er2, h⟩ := ok_b h
  refine z_vv (rest := []) C0 hw (c_Mo_lookUp ((z_gL q 0) + ((z_gI q 6).toInt64)) (1 : Int32) (2 : Int32) (0 : Int32) q r2 er2) mw_Mo_lookUp ml_Mo_95 0 rfl ⟨Nat.le_of_ble_eq_true rfl, Nat.le_of_ble_eq_true rfl⟩ ⟨Nat.le_refl 0, Nat.le_refl 0⟩ rfl hl.1 rfl (Nat.le_of_ble_eq_true rfl) d_Mo_fetch_37 (fun H locs hw => ?_)
  refine lv_aload_n hx hb d_Mo_fetch_40 rfl (lv_at hl 0 rfl) ?_
  refine gfM_0_refused C0 hw fl_Mo_28 d_Mo_fetch_41 ?_
  refine lv_iconst (v := (-1 : Int32)) hx hb d_Mo_fetch_44 (by decide) ?_
  refine lv_icmp_eq (tgt := 50) hx hb d_Mo_fetch_45 (by decide) (fun c3 => ?_) (fun c3 => ?_)
  · have h := ok_t h c3
    refine lv_aload_n hx hb d_Mo_fetch_50 rfl (lv_at hl 0 rfl) ?_
    refine lv_dup hx hb d_Mo_fetch_51 rfl ?_
    refine gfM_0_length C0 hw fl_Mo_108 d_Mo_fetch_52 ?_
    refine lv_iconst (v := (1 : Int32)) hx hb d_Mo_fetch_55 (by decide) ?_
    refine lv_iadd hx hb d_Mo_fetch_56 ?_
    refine pfM_0_length C0 hw fl_Mo_108 d_Mo_fetch_57 (fun H locs hw => ?_)
    obtain ⟨q4, eq4, h⟩ := ok_n h
    rw [← eq4] at hw
    refine lv_aload_n hx hb d_Mo_fetch_60 rfl (lv_at hl 0 rfl) ?_
    refine lv_aload_n hx hb d_Mo_fetch_61 rfl (lv_at hl 0 rfl) ?_
    refine gfM_0_lies C0 hw fl_Mo_39 d_Mo_fetch_62 ?_
    refine lv_iconst (v := (0 : Int32)) hx hb d_Mo_fetch_65 (by decide) ?_
    obtain ⟨b5, h⟩ := ok_g h
    refine alM_8 C0 hw b5 d_Mo_fetch_66 ?_
    obtain ⟨r6, er6, h⟩ := ok_b h
    refine z_vi (rest := []) C0 hw (c_Mo_byteAt (z_gM q4 3 (0 : Int32).toNatClampNeg) q4 r6 er6) mw_Mo_byteAt ml_Mo_44 0 rfl ⟨Nat.le_of_ble_eq_true rfl, Nat.le_of_ble_eq_true rfl⟩ ⟨Nat.le_refl 0, Nat.le_refl 0⟩ rfl hl.1 rfl (Nat.le_of_ble_eq_true rfl) d_Mo_fetch_67 (fun H locs hw => ?_)
    have ho := Option.some.inj h
    subst ho
    exact z_rti C0 hw d_Mo_fetch_70
  · have h := ok_f h c3
    refine lv_iconst (v := (0 : Int32)) hx hb d_Mo_fetch_48 (by decide) ?_
    have ho := Option.some.inj h
    subst ho
    exact z_rti C0 hw d_Mo_fetch_49
set_option maxHeartbeats 4000000 in
set_option maxRecDepth 100000 in
theorem c_Mo_fetch {l : Launch} {D : va_G} {ad : Nat → Nat} {ca : Nat → ClassId} (q : z_Sg) (o : (Int32 × z_Sg)) (h : f_Mo_fetch q = some o) : z_ci l y_Mo_fetch b_Mo_fetch 1 (some .int) 4 107 D (z_Mt ca) (z_M ad ca q) (z_M ad ca o.2) [.ref (ad 0)] o.1 := by
  refine z_ci_of (own := z_RMo) (by decide) rfl ?_
  intro p e s m below meth c A C0 hw
  obtain ⟨hx, hb, hr, hlk, hml, hown, hts, hK, hA⟩ := id C0
  generalize hH : s.heap = H at hw ⊢
  generalize hlo : ([] : List Loc) = locs at hw ⊢
  refine z_entry (lv := [(0, .ref (ad 0))]) (Nat.le_of_ble_eq_true rfl) rfl (fun ls hl => ?_)
  unfold f_Mo_fetch at h
  refine lv_aload_n hx hb d_Mo_fetch_0 rfl (lv_at hl 0 rfl) ?_
  refine gfM_0_refused C0 hw fl_Mo_28 d_Mo_fetch_1 ?_
  refine lv_iconst (v := (-1 : Int32)) hx hb d_Mo_fetch_4 (by decide) ?_
  refine lv_icmp_ne (tgt := 23) hx hb d_Mo_fetch_5 (by decide) (fun c1 => ?_) (fun c1 => ?_)
  · have h := ok_f h c1
    exact w_Mo_fetch_23 o C0 q h H locs ls hw (lv_sub hl [0] rfl)
  · have h := ok_t h c1
    refine lv_aload_n hx hb d_Mo_fetch_8 rfl (lv_at hl 0 rfl) ?_
    refine gfM_0_length C0 hw fl_Mo_108 d_Mo_fetch_9 ?_
    refine lv_bipush (v := (15 : Int32)) hx hb d_Mo_fetch_12 (by decide) ?_
    refine lv_icmp_ne (tgt := 23) hx hb d_Mo_fetch_14 (by decide) (fun c7 => ?_) (fun c7 => ?_)
    · have h := ok_f h c7
      exact w_Mo_fetch_23 o C0 q h H locs ls hw (lv_sub hl [0] rfl)
    · have h := ok_t h c7
      refine lv_aload_n hx hb d_Mo_fetch_17 rfl (lv_at hl 0 rfl) ?_
      refine lv_bipush (v := (13 : Int32)) hx hb d_Mo_fetch_18 (by decide) ?_
      obtain ⟨r8, er8, h⟩ := ok_b h
      refine z_vv (rest := []) C0 hw (c_Mo_refuse (13 : Int32) q r8 er8) mw_Mo_refuse ml_Mo_81 0 rfl ⟨Nat.le_of_ble_eq_true rfl, Nat.le_of_ble_eq_true rfl⟩ ⟨Nat.le_refl 0, Nat.le_refl 0⟩ rfl hl.1 rfl (Nat.le_of_ble_eq_true rfl) d_Mo_fetch_20 (fun H locs hw => ?_)
      exact w_Mo_fetch_23 o C0 r8 h H locs ls hw (lv_sub hl [0] rfl)
def k_Mo_open_167 (t1 : Int32) (q : z_Sg) : Option z_Sg :=
  z_nm (z_sI q 15 t1) (fun q11 => some q11)
def k_Mo_open_148 (x1 : Int32) (t1 : Int32) (q : z_Sg) : Option z_Sg :=
  z_gd (z_bo t1) (z_nm (z_sI q 18 t1) (fun q9 => if (z_gI q9 18) = 0 then (k_Mo_open_167 x1 q9) else ((f_Mo_fetch q9).bind (fun r12 => k_Mo_open_167 r12.1 r12.2))))
def k_Mo_open_147 (x1 : Int32) (q : z_Sg) : Option z_Sg :=
  k_Mo_open_148 x1 (0 : Int32) q
def k_Mo_open_128 (x1 : Int32) (q : z_Sg) : Option z_Sg :=
  if x1 = (15 : Int32) then (if (z_gI q 4) = (-1 : Int32) then (k_Mo_open_148 x1 (1 : Int32) q) else (k_Mo_open_147 x1 q)) else (k_Mo_open_147 x1 q)
def k_Mo_open_120 (ih25 : Int32 × z_Sg → Option z_Sg) (q : z_Sg) : Option z_Sg :=
  (f_Mo_fetch q).bind (fun r21 => ih25 (r21.1, r21.2))
def k_Mo_open_105 (ih25 : Int32 × z_Sg → Option z_Sg) (x1 : Int32) (t1 : Int32) (q : z_Sg) : Option z_Sg :=
  z_gd (z_bo t1) (z_nm (z_sI q 16 t1) (fun q19 => if x1 ≤ (240 : Int32) then (k_Mo_open_120 ih25 q19) else (z_nm (z_sI q19 11 x1) (fun q22 => k_Mo_open_120 ih25 q22))))
def k_Mo_open_100 (ih25 : Int32 × z_Sg → Option z_Sg) (x1 : Int32) (q : z_Sg) : Option z_Sg :=
  k_Mo_open_105 ih25 x1 (1 : Int32) q
def k_Mo_open_83 (ih25 : Int32 × z_Sg → Option z_Sg) (x1 : Int32) (t1 : Int32) (q : z_Sg) : Option z_Sg :=
  z_nm (z_sI q 10 t1) (fun q16 => if (z_gI q16 16) = 0 then (if x1 = (102 : Int32) then (k_Mo_open_100 ih25 x1 q16) else (k_Mo_open_105 ih25 x1 (0 : Int32) q16)) else (k_Mo_open_100 ih25 x1 q16))
def k_Mo_open_82 (ih25 : Int32 × z_Sg → Option z_Sg) (x1 : Int32) (q : z_Sg) : Option z_Sg :=
  k_Mo_open_83 ih25 x1 (0 : Int32) q
def k_Mo_open_65 (ih25 : Int32 × z_Sg → Option z_Sg) (x1 : Int32) (q : z_Sg) : Option z_Sg :=
  if x1 < (64 : Int32) then (k_Mo_open_82 ih25 x1 q) else (if (79 : Int32) < x1 then (k_Mo_open_82 ih25 x1 q) else (k_Mo_open_83 ih25 x1 x1 q))
def kb_Mo_open_25 (ih25 : Int32 × z_Sg → Option z_Sg) (x1 : Int32) (q : z_Sg) : Option z_Sg :=
  if (z_gI q 4) = (-1 : Int32) then (if x1 = (102 : Int32) then (k_Mo_open_65 ih25 x1 q) else (if x1 = (242 : Int32) then (k_Mo_open_65 ih25 x1 q) else (if x1 = (243 : Int32) then (k_Mo_open_65 ih25 x1 q) else (if x1 < (64 : Int32) then (k_Mo_open_128 x1 q) else (if (79 : Int32) < x1 then (k_Mo_open_128 x1 q) else (k_Mo_open_65 ih25 x1 q)))))) else (k_Mo_open_128 x1 q)
def k_Mo_open_25 (x1 : Int32) (q : z_Sg) : Option z_Sg := z_lo (fun ih25 a => kb_Mo_open_25 ih25 a.1 a.2) 2000 (x1, q)
def f_Mo_open (q : z_Sg) : Option z_Sg :=
  z_nm (z_sI q 6 (0 : Int32)) (fun q1 => z_nm (z_sI q1 10 (0 : Int32)) (fun q2 => z_nm (z_sI q2 11 (0 : Int32)) (fun q3 => z_nm (z_sI q3 16 (0 : Int32)) (fun q4 => (f_Mo_fetch q4).bind (fun r5 => k_Mo_open_25 r5.1 r5.2)))))
set_option maxHeartbeats 4000000 in
set_option maxRecDepth 100000 in
theorem w_Mo_open_167 {p : Program} {l : Launch} {e : Env} {s : State} {m : MethodId} {args : Array Value} {below : List Frame} {meth : Method} {c : Code} {D : va_G} {A : Nat → Prop} {ad : Nat → Nat} {ca : Nat → ClassId} (o : z_Sg) (C0 : z_cx z_RMo b_Mo_open 2 none D (z_Mt ca) A p s m args meth c) (q : z_Sg) (t1 : Int32) (h : k_Mo_open_167 t1 q = some o) : ∀ (H : Heap) (locs : List Loc) (ls : Array Slot), z_wd D (z_M ad ca q) A s H locs → lv_has ls 2 [] → W p l e (z_rm 5 127) s m args below meth c H locs 0 0 (z_qv below D (z_Mt ca) (z_M ad ca o) A s args) (F0 m 167 ls [.int t1, .ref (ad 0)]) := by
  obtain ⟨hx, hb, hr, hlk, hml, hown, hts, hK, hA⟩ := id C0
  intro H locs ls hw hl
  refine pfM_0_opcode C0 hw fl_Mo_133 d_Mo_open_167 (fun H locs hw => ?_)
  obtain ⟨q11, eq11, h⟩ := ok_n h
  rw [← eq11] at hw
  have ho := Option.some.inj h
  subst ho
  exact z_rtv C0 hw d_Mo_open_170
set_option maxHeartbeats 4000000 in
set_option maxRecDepth 100000 in
theorem w_Mo_open_148 {p : Program} {l : Launch} {e : Env} {s : State} {m : MethodId} {args : Array Value} {below : List Frame} {meth : Method} {c : Code} {D : va_G} {A : Nat → Prop} {ad : Nat → Nat} {ca : Nat → ClassId} (o : z_Sg) (C0 : z_cx z_RMo b_Mo_open 2 none D (z_Mt ca) A p s m args meth c) (q : z_Sg) (x1 : Int32) (t1 : Int32) (h : k_Mo_open_148 x1 t1 q = some o) : ∀ (H : Heap) (locs : List Loc) (ls : Array Slot), z_wd D (z_M ad ca q) A s H locs → lv_has ls 2 [(0, .ref (ad 0)), (1, .int x1)] → W p l e (z_rm 5 127) s m args below meth c H locs 0 0 (z_qv below D (z_Mt ca) (z_M ad ca o) A s args) (F0 m 148 ls [.int t1, .ref (ad 0)]) := by
  obtain ⟨hx, hb, hr, hlk, hml, hown, hts, hK, hA⟩ := id C0
  intro H locs ls hw hl
  obtain ⟨b8, h⟩ := ok_G h
  refine pfM_0_two C0 hw b8 fl_Mo_130 d_Mo_open_148 (fun H locs hw => ?_)
  obtain ⟨q9, eq9, h⟩ := ok_n h
  rw [← eq9] at hw
  refine lv_aload_n hx hb d_Mo_open_151 rfl (lv_at hl 0 rfl) ?_
  refine lv_aload_n hx hb d_Mo_open_152 rfl (lv_at hl 0 rfl) ?_
  refine gfM_0_two C0 hw fl_Mo_130 d_Mo_open_153 ?_
  refine lv_if_eq (tgt := 166) hx hb d_Mo_open_156 (by decide) (fun c10 => ?_) (fun c10 => ?_)
  · have h := ok_t h c10
    refine lv_iload_n hx hb d_Mo_open_166 rfl (lv_at hl 1 rfl) ?_
    exact w_Mo_open_167 o C0 q9 x1 h H locs ls hw (lv_sub hl [] rfl)
  · have h := ok_f h c10
    refine lv_aload_n hx hb d_Mo_open_159 rfl (lv_at hl 0 rfl) ?_
    obtain ⟨r12, er12, h⟩ := ok_b h
    refine z_vi (rest := [.ref (ad 0)]) C0 hw (c_Mo_fetch q9 r12 er12) mw_Mo_fetch ml_Mo_114 0 rfl ⟨Nat.le_of_ble_eq_true rfl, Nat.le_of_ble_eq_true rfl⟩ ⟨Nat.le_refl 0, Nat.le_refl 0⟩ rfl hl.1 rfl (Nat.le_of_ble_eq_true rfl) d_Mo_open_160 (fun H locs hw => ?_)
    refine lv_goto (tgt := 167) hx hb d_Mo_open_163 (by decide) ?_
    exact w_Mo_open_167 o C0 r12.2 r12.1 h H locs ls hw (lv_sub hl [] rfl)
set_option maxHeartbeats 4000000 in
set_option maxRecDepth 100000 in
theorem w_Mo_open_147 {p : Program} {l : Launch} {e : Env} {s : State} {m : MethodId} {args : Array Value} {below : List Frame} {meth : Method} {c : Code} {D : va_G} {A : Nat → Prop} {ad : Nat → Nat} {ca : Nat → ClassId} (o : z_Sg) (C0 : z_cx z_RMo b_Mo_open 2 none D (z_Mt ca) A p s m args meth c) (q : z_Sg) (x1 : Int32) (h : k_Mo_open_147 x1 q = some o) : ∀ (H : Heap) (locs : List Loc) (ls : Array Slot), z_wd D (z_M ad ca q) A s H locs → lv_has ls 2 [(0, .ref (ad 0)), (1, .int x1)] → W p l e (z_rm 5 127) s m args below meth c H locs 0 0 (z_qv below D (z_Mt ca) (z_M ad ca o) A s args) (F0 m 147 ls [.ref (ad 0)]) := by
  obtain ⟨hx, hb, hr, hlk, hml, hown, hts, hK, hA⟩ := id C0
  intro H locs ls hw hl
  refine lv_iconst (v := (0 : Int32)) hx hb d_Mo_open_147 (by decide) ?_
  exact w_Mo_open_148 o C0 q x1 (0 : Int32) h H locs ls hw (lv_sub hl [0, 1] rfl)
set_option maxHeartbeats 4000000 in
set_option maxRecDepth 100000 in
theorem w_Mo_open_128 {p : Program} {l : Launch} {e : Env} {s : State} {m : MethodId} {args : Array Value} {below : List Frame} {meth : Method} {c : Code} {D : va_G} {A : Nat → Prop} {ad : Nat → Nat} {ca : Nat → ClassId} (o : z_Sg) (C0 : z_cx z_RMo b_Mo_open 2 none D (z_Mt ca) A p s m args meth c) (q : z_Sg) (x1 : Int32) (h : k_Mo_open_128 x1 q = some o) : ∀ (H : Heap) (locs : List Loc) (ls : Array Slot), z_wd D (z_M ad ca q) A s H locs → lv_has ls 2 [(0, .ref (ad 0)), (1, .int x1)] → W p l e (z_rm 5 127) s m args below meth c H locs 0 0 (z_qv below D (z_Mt ca) (z_M ad ca o) A s args) (F0 m 128 ls []) := by
  obtain ⟨hx, hb, hr, hlk, hml, hown, hts, hK, hA⟩ := id C0
  intro H locs ls hw hl
  refine lv_aload_n hx hb d_Mo_open_128 rfl (lv_at hl 0 rfl) ?_
  refine lv_iload_n hx hb d_Mo_open_129 rfl (lv_at hl 1 rfl) ?_
  refine lv_bipush (v := (15 : Int32)) hx hb d_Mo_open_130 (by decide) ?_
  refine lv_icmp_ne (tgt := 147) hx hb d_Mo_open_132 (by decide) (fun c7 => ?_) (fun c7 => ?_)
  · have h := ok_f h c7
    exact w_Mo_open_147 o C0 q x1 h H locs ls hw (lv_sub hl [0, 1] rfl)
  · have h := ok_t h c7
    refine lv_aload_n hx hb d_Mo_open_135 rfl (lv_at hl 0 rfl) ?_
    refine gfM_0_refused C0 hw fl_Mo_28 d_Mo_open_136 ?_
    refine lv_iconst (v := (-1 : Int32)) hx hb d_Mo_open_139 (by decide) ?_
    refine lv_icmp_ne (tgt := 147) hx hb d_Mo_open_140 (by decide) (fun c13 => ?_) (fun c13 => ?_)
    · have h := ok_f h c13
      exact w_Mo_open_147 o C0 q x1 h H locs ls hw (lv_sub hl [0, 1] rfl)
    · have h := ok_t h c13
      refine lv_iconst (v := (1 : Int32)) hx hb d_Mo_open_143 (by decide) ?_
      refine lv_goto (tgt := 148) hx hb d_Mo_open_144 (by decide) ?_
      exact w_Mo_open_148 o C0 q x1 (1 : Int32) h H locs ls hw (lv_sub hl [0, 1] rfl)
set_option maxHeartbeats 4000000 in
set_option maxRecDepth 100000 in
theorem w_Mo_open_120 {p : Program} {l : Launch} {e : Env} {s : State} {m : MethodId} {args : Array Value} {below : List Frame} {meth : Method} {c : Code} {D : va_G} {A : Nat → Prop} {ad : Nat → Nat} {ca : Nat → ClassId} (o : z_Sg) (C0 : z_cx z_RMo b_Mo_open 2 none D (z_Mt ca) A p s m args meth c) (q : z_Sg) (ih25 : Int32 × z_Sg → Option z_Sg) (hi25 : ∀ a : Int32 × z_Sg, ih25 a = some o → ∀ (H : Heap) (locs : List Loc) (ls : Array Slot), z_wd D (z_M ad ca a.2) A s H locs → lv_has ls 2 [(0, .ref (ad 0)), (1, .int a.1)] → W p l e (z_rm 5 127) s m args below meth c H locs 0 0 (z_qv below D (z_Mt ca) (z_M ad ca o) A s args) (F0 m 25 ls [])) (h : k_Mo_open_120 ih25 q = some o) : ∀ (H : Heap) (locs : List Loc) (ls : Array Slot), z_wd D (z_M ad ca q) A s H locs → lv_has ls 2 [(0, .ref (ad 0))] → W p l e (z_rm 5 127) s m args below meth c H locs 0 0 (z_qv below D (z_Mt ca) (z_M ad ca o) A s args) (F0 m 120 ls []) := by
  obtain ⟨hx, hb, hr, hlk, hml, hown, hts, hK, hA⟩ := id C0
  intro H locs ls hw hl
  refine lv_aload_n hx hb d_Mo_open_120 rfl (lv_at hl 0 rfl) ?_
  obtain ⟨r21, er21, h⟩ := ok_b h
  refine z_vi (rest := []) C0 hw (c_Mo_fetch q r21 er21) mw_Mo_fetch ml_Mo_114 0 rfl ⟨Nat.le_of_ble_eq_true rfl, Nat.le_of_ble_eq_true rfl⟩ ⟨Nat.le_refl 0, Nat.le_refl 0⟩ rfl hl.1 rfl (Nat.le_of_ble_eq_true rfl) d_Mo_open_121 (fun H locs hw => ?_)
  refine lv_istore_n (lv' := [(1, .int r21.1), (0, .ref (ad 0))]) hx hb d_Mo_open_124 rfl hl (by decide) rfl (fun ls hl => ?_)
  refine lv_goto (tgt := 25) hx hb d_Mo_open_125 (by decide) ?_
  exact hi25 (r21.1, r21.2) h H locs ls hw (lv_sub hl [1, 0] rfl)
set_option maxHeartbeats 4000000 in
set_option maxRecDepth 100000 in
theorem w_Mo_open_105 {p : Program} {l : Launch} {e : Env} {s : State} {m : MethodId} {args : Array Value} {below : List Frame} {meth : Method} {c : Code} {D : va_G} {A : Nat → Prop} {ad : Nat → Nat} {ca : Nat → ClassId} (o : z_Sg) (C0 : z_cx z_RMo b_Mo_open 2 none D (z_Mt ca) A p s m args meth c) (q : z_Sg) (ih25 : Int32 × z_Sg → Option z_Sg) (hi25 : ∀ a : Int32 × z_Sg, ih25 a = some o → ∀ (H : Heap) (locs : List Loc) (ls : Array Slot), z_wd D (z_M ad ca a.2) A s H locs → lv_has ls 2 [(0, .ref (ad 0)), (1, .int a.1)] → W p l e (z_rm 5 127) s m args below meth c H locs 0 0 (z_qv below D (z_Mt ca) (z_M ad ca o) A s args) (F0 m 25 ls [])) (x1 : Int32) (t1 : Int32) (h : k_Mo_open_105 ih25 x1 t1 q = some o) : ∀ (H : Heap) (locs : List Loc) (ls : Array Slot), z_wd D (z_M ad ca q) A s H locs → lv_has ls 2 [(0, .ref (ad 0)), (1, .int x1)] → W p l e (z_rm 5 127) s m args below meth c H locs 0 0 (z_qv below D (z_Mt ca) (z_M ad ca o) A s args) (F0 m 105 ls [.int t1, .ref (ad 0)]) := by
  obtain ⟨hx, hb, hr, hlk, hml, hown, hts, hK, hA⟩ := id C0
  intro H locs ls hw hl
  obtain ⟨b18, h⟩ := ok_G h
  refine pfM_0_small C0 hw b18 fl_Mo_127 d_Mo_open_105 (fun H locs hw => ?_)
  obtain ⟨q19, eq19, h⟩ := ok_n h
  rw [← eq19] at hw
  refine lv_iload_n hx hb d_Mo_open_108 rfl (lv_at hl 1 rfl) ?_
  refine lv_sipush (v := (240 : Int32)) hx hb d_Mo_open_109 (by decide) ?_
  refine lv_icmp_le (tgt := 120) hx hb d_Mo_open_112 (by decide) (fun c20 => ?_) (fun c20 => ?_)
  · have h := ok_t h c20
    exact w_Mo_open_120 o C0 q19 ih25 hi25 h H locs ls hw (lv_sub hl [0] rfl)
  · have h := ok_f h c20
    refine lv_aload_n hx hb d_Mo_open_115 rfl (lv_at hl 0 rfl) ?_
    refine lv_iload_n hx hb d_Mo_open_116 rfl (lv_at hl 1 rfl) ?_
    refine pfM_0_repeat C0 hw fl_Mo_124 d_Mo_open_117 (fun H locs hw => ?_)
    obtain ⟨q22, eq22, h⟩ := ok_n h
    rw [← eq22] at hw
    exact w_Mo_open_120 o C0 q22 ih25 hi25 h H locs ls hw (lv_sub hl [0] rfl)
set_option maxHeartbeats 4000000 in
set_option maxRecDepth 100000 in
theorem w_Mo_open_100 {p : Program} {l : Launch} {e : Env} {s : State} {m : MethodId} {args : Array Value} {below : List Frame} {meth : Method} {c : Code} {D : va_G} {A : Nat → Prop} {ad : Nat → Nat} {ca : Nat → ClassId} (o : z_Sg) (C0 : z_cx z_RMo b_Mo_open 2 none D (z_Mt ca) A p s m args meth c) (q : z_Sg) (ih25 : Int32 × z_Sg → Option z_Sg) (hi25 : ∀ a : Int32 × z_Sg, ih25 a = some o → ∀ (H : Heap) (locs : List Loc) (ls : Array Slot), z_wd D (z_M ad ca a.2) A s H locs → lv_has ls 2 [(0, .ref (ad 0)), (1, .int a.1)] → W p l e (z_rm 5 127) s m args below meth c H locs 0 0 (z_qv below D (z_Mt ca) (z_M ad ca o) A s args) (F0 m 25 ls [])) (x1 : Int32) (h : k_Mo_open_100 ih25 x1 q = some o) : ∀ (H : Heap) (locs : List Loc) (ls : Array Slot), z_wd D (z_M ad ca q) A s H locs → lv_has ls 2 [(0, .ref (ad 0)), (1, .int x1)] → W p l e (z_rm 5 127) s m args below meth c H locs 0 0 (z_qv below D (z_Mt ca) (z_M ad ca o) A s args) (F0 m 100 ls [.ref (ad 0)]) := by
  obtain ⟨hx, hb, hr, hlk, hml, hown, hts, hK, hA⟩ := id C0
  intro H locs ls hw hl
  refine lv_iconst (v := (1 : Int32)) hx hb d_Mo_open_100 (by decide) ?_
  refine lv_goto (tgt := 105) hx hb d_Mo_open_101 (by decide) ?_
  exact w_Mo_open_105 o C0 q ih25 hi25 x1 (1 : Int32) h H locs ls hw (lv_sub hl [0, 1] rfl)
set_option maxHeartbeats 4000000 in
set_option maxRecDepth 100000 in
theorem w_Mo_open_83 {p : Program} {l : Launch} {e : Env} {s : State} {m : MethodId} {args : Array Value} {below : List Frame} {meth : Method} {c : Code} {D : va_G} {A : Nat → Prop} {ad : Nat → Nat} {ca : Nat → ClassId} (o : z_Sg) (C0 : z_cx z_RMo b_Mo_open 2 none D (z_Mt ca) A p s m args meth c) (q : z_Sg) (ih25 : Int32 × z_Sg → Option z_Sg) (hi25 : ∀ a : Int32 × z_Sg, ih25 a = some o → ∀ (H : Heap) (locs : List Loc) (ls : Array Slot), z_wd D (z_M ad ca a.2) A s H locs → lv_has ls 2 [(0, .ref (ad 0)), (1, .int a.1)] → W p l e (z_rm 5 127) s m args below meth c H locs 0 0 (z_qv below D (z_Mt ca) (z_M ad ca o) A s args) (F0 m 25 ls [])) (x1 : Int32) (t1 : Int32) (h : k_Mo_open_83 ih25 x1 t1 q = some o) : ∀ (H : Heap) (locs : List Loc) (ls : Array Slot), z_wd D (z_M ad ca q) A s H locs → lv_has ls 2 [(0, .ref (ad 0)), (1, .int x1)] → W p l e (z_rm 5 127) s m args below meth c H locs 0 0 (z_qv below D (z_Mt ca) (z_M ad ca o) A s args) (F0 m 83 ls [.int t1, .ref (ad 0)]) := by
  obtain ⟨hx, hb, hr, hlk, hml, hown, hts, hK, hA⟩ := id C0
  intro H locs ls hw hl
  refine pfM_0_rex C0 hw fl_Mo_121 d_Mo_open_83 (fun H locs hw => ?_)
  obtain ⟨q16, eq16, h⟩ := ok_n h
  rw [← eq16] at hw
  refine lv_aload_n hx hb d_Mo_open_86 rfl (lv_at hl 0 rfl) ?_
  refine lv_aload_n hx hb d_Mo_open_87 rfl (lv_at hl 0 rfl) ?_
  refine gfM_0_small C0 hw fl_Mo_127 d_Mo_open_88 ?_
  refine lv_if_ne (tgt := 100) hx hb d_Mo_open_91 (by decide) (fun c17 => ?_) (fun c17 => ?_)
  · have h := ok_f h c17
    exact w_Mo_open_100 o C0 q16 ih25 hi25 x1 h H locs ls hw (lv_sub hl [0, 1] rfl)
  · have h := ok_t h c17
    refine lv_iload_n hx hb d_Mo_open_94 rfl (lv_at hl 1 rfl) ?_
    refine lv_bipush (v := (102 : Int32)) hx hb d_Mo_open_95 (by decide) ?_
    refine lv_icmp_ne (tgt := 104) hx hb d_Mo_open_97 (by decide) (fun c23 => ?_) (fun c23 => ?_)
    · have h := ok_f h c23
      refine lv_iconst (v := (0 : Int32)) hx hb d_Mo_open_104 (by decide) ?_
      exact w_Mo_open_105 o C0 q16 ih25 hi25 x1 (0 : Int32) h H locs ls hw (lv_sub hl [0, 1] rfl)
    · have h := ok_t h c23
      exact w_Mo_open_100 o C0 q16 ih25 hi25 x1 h H locs ls hw (lv_sub hl [0, 1] rfl)
set_option maxHeartbeats 4000000 in
set_option maxRecDepth 100000 in
theorem w_Mo_open_82 {p : Program} {l : Launch} {e : Env} {s : State} {m : MethodId} {args : Array Value} {below : List Frame} {meth : Method} {c : Code} {D : va_G} {A : Nat → Prop} {ad : Nat → Nat} {ca : Nat → ClassId} (o : z_Sg) (C0 : z_cx z_RMo b_Mo_open 2 none D (z_Mt ca) A p s m args meth c) (q : z_Sg) (ih25 : Int32 × z_Sg → Option z_Sg) (hi25 : ∀ a : Int32 × z_Sg, ih25 a = some o → ∀ (H : Heap) (locs : List Loc) (ls : Array Slot), z_wd D (z_M ad ca a.2) A s H locs → lv_has ls 2 [(0, .ref (ad 0)), (1, .int a.1)] → W p l e (z_rm 5 127) s m args below meth c H locs 0 0 (z_qv below D (z_Mt ca) (z_M ad ca o) A s args) (F0 m 25 ls [])) (x1 : Int32) (h : k_Mo_open_82 ih25 x1 q = some o) : ∀ (H : Heap) (locs : List Loc) (ls : Array Slot), z_wd D (z_M ad ca q) A s H locs → lv_has ls 2 [(0, .ref (ad 0)), (1, .int x1)] → W p l e (z_rm 5 127) s m args below meth c H locs 0 0 (z_qv below D (z_Mt ca) (z_M ad ca o) A s args) (F0 m 82 ls [.ref (ad 0)]) := by
  obtain ⟨hx, hb, hr, hlk, hml, hown, hts, hK, hA⟩ := id C0
  intro H locs ls hw hl
  refine lv_iconst (v := (0 : Int32)) hx hb d_Mo_open_82 (by decide) ?_
  exact w_Mo_open_83 o C0 q ih25 hi25 x1 (0 : Int32) h H locs ls hw (lv_sub hl [0, 1] rfl)
set_option maxHeartbeats 4000000 in
set_option maxRecDepth 100000 in
theorem w_Mo_open_65 {p : Program} {l : Launch} {e : Env} {s : State} {m : MethodId} {args : Array Value} {below : List Frame} {meth : Method} {c : Code} {D : va_G} {A : Nat → Prop} {ad : Nat → Nat} {ca : Nat → ClassId} (o : z_Sg) (C0 : z_cx z_RMo b_Mo_open 2 none D (z_Mt ca) A p s m args meth c) (q : z_Sg) (ih25 : Int32 × z_Sg → Option z_Sg) (hi25 : ∀ a : Int32 × z_Sg, ih25 a = some o → ∀ (H : Heap) (locs : List Loc) (ls : Array Slot), z_wd D (z_M ad ca a.2) A s H locs → lv_has ls 2 [(0, .ref (ad 0)), (1, .int a.1)] → W p l e (z_rm 5 127) s m args below meth c H locs 0 0 (z_qv below D (z_Mt ca) (z_M ad ca o) A s args) (F0 m 25 ls [])) (x1 : Int32) (h : k_Mo_open_65 ih25 x1 q = some o) : ∀ (H : Heap) (locs : List Loc) (ls : Array Slot), z_wd D (z_M ad ca q) A s H locs → lv_has ls 2 [(0, .ref (ad 0)), (1, .int x1)] → W p l e (z_rm 5 127) s m args below meth c H locs 0 0 (z_qv below D (z_Mt ca) (z_M ad ca o) A s args) (F0 m 65 ls []) := by
  obtain ⟨hx, hb, hr, hlk, hml, hown, hts, hK, hA⟩ := id C0
  intro H locs ls hw hl
  refine lv_aload_n hx hb d_Mo_open_65 rfl (lv_at hl 0 rfl) ?_
  refine lv_iload_n hx hb d_Mo_open_66 rfl (lv_at hl 1 rfl) ?_
  refine lv_bipush (v := (64 : Int32)) hx hb d_Mo_open_67 (by decide) ?_
  refine lv_icmp_lt (tgt := 82) hx hb d_Mo_open_69 (by decide) (fun c15 => ?_) (fun c15 => ?_)
  · have h := ok_t h c15
    exact w_Mo_open_82 o C0 q ih25 hi25 x1 h H locs ls hw (lv_sub hl [0, 1] rfl)
  · have h := ok_f h c15
    refine lv_iload_n hx hb d_Mo_open_72 rfl (lv_at hl 1 rfl) ?_
    refine lv_bipush (v := (79 : Int32)) hx hb d_Mo_open_73 (by decide) ?_
    refine lv_icmp_gt (tgt := 82) hx hb d_Mo_open_75 (by decide) (fun c24 => ?_) (fun c24 => ?_)
    · have h := ok_t h c24
      exact w_Mo_open_82 o C0 q ih25 hi25 x1 h H locs ls hw (lv_sub hl [0, 1] rfl)
    · have h := ok_f h c24
      refine lv_iload_n hx hb d_Mo_open_78 rfl (lv_at hl 1 rfl) ?_
      refine lv_goto (tgt := 83) hx hb d_Mo_open_79 (by decide) ?_
      exact w_Mo_open_83 o C0 q ih25 hi25 x1 x1 h H locs ls hw (lv_sub hl [0, 1] rfl)
set_option maxHeartbeats 4000000 in
set_option maxRecDepth 100000 in
theorem wb_Mo_open_25 {p : Program} {l : Launch} {e : Env} {s : State} {m : MethodId} {args : Array Value} {below : List Frame} {meth : Method} {c : Code} {D : va_G} {A : Nat → Prop} {ad : Nat → Nat} {ca : Nat → ClassId} (o : z_Sg) (C0 : z_cx z_RMo b_Mo_open 2 none D (z_Mt ca) A p s m args meth c) (q : z_Sg) (ih25 : Int32 × z_Sg → Option z_Sg) (hi25 : ∀ a : Int32 × z_Sg, ih25 a = some o → ∀ (H : Heap) (locs : List Loc) (ls : Array Slot), z_wd D (z_M ad ca a.2) A s H locs → lv_has ls 2 [(0, .ref (ad 0)), (1, .int a.1)] → W p l e (z_rm 5 127) s m args below meth c H locs 0 0 (z_qv below D (z_Mt ca) (z_M ad ca o) A s args) (F0 m 25 ls [])) (x1 : Int32) (h : kb_Mo_open_25 ih25 x1 q = some o) : ∀ (H : Heap) (locs : List Loc) (ls : Array Slot), z_wd D (z_M ad ca q) A s H locs → lv_has ls 2 [(0, .ref (ad 0)), (1, .int x1)] → W p l e (z_rm 5 127) s m args below meth c H locs 0 0 (z_qv below D (z_Mt ca) (z_M ad ca o) A s args) (F0 m 25 ls []) := by
  obtain ⟨hx, hb, hr, hlk, hml, hown, hts, hK, hA⟩ := id C0
  intro H locs ls hw hl
  refine lv_aload_n hx hb d_Mo_open_25 rfl (lv_at hl 0 rfl) ?_
  refine gfM_0_refused C0 hw fl_Mo_28 d_Mo_open_26 ?_
  refine lv_iconst (v := (-1 : Int32)) hx hb d_Mo_open_29 (by decide) ?_
  refine lv_icmp_ne (tgt := 128) hx hb d_Mo_open_30 (by decide) (fun c6 => ?_) (fun c6 => ?_)
  · have h := ok_f h c6
    exact w_Mo_open_128 o C0 q x1 h H locs ls hw (lv_sub hl [0, 1] rfl)
  · have h := ok_t h c6
    refine lv_iload_n hx hb d_Mo_open_33 rfl (lv_at hl 1 rfl) ?_
    refine lv_bipush (v := (102 : Int32)) hx hb d_Mo_open_34 (by decide) ?_
    refine lv_icmp_eq (tgt := 65) hx hb d_Mo_open_36 (by decide) (fun c14 => ?_) (fun c14 => ?_)
    · have h := ok_t h c14
      exact w_Mo_open_65 o C0 q ih25 hi25 x1 h H locs ls hw (lv_sub hl [0, 1] rfl)
    · have h := ok_f h c14
      refine lv_iload_n hx hb d_Mo_open_39 rfl (lv_at hl 1 rfl) ?_
      refine lv_sipush (v := (242 : Int32)) hx hb d_Mo_open_40 (by decide) ?_
      refine lv_icmp_eq (tgt := 65) hx hb d_Mo_open_43 (by decide) (fun c25 => ?_) (fun c25 => ?_)
      · have h := ok_t h c25
        exact w_Mo_open_65 o C0 q ih25 hi25 x1 h H locs ls hw (lv_sub hl [0, 1] rfl)
      · have h := ok_f h c25
        refine lv_iload_n hx hb d_Mo_open_46 rfl (lv_at hl 1 rfl) ?_
        refine lv_sipush (v := (243 : Int32)) hx hb d_Mo_open_47 (by decide) ?_
        refine lv_icmp_eq (tgt := 65) hx hb d_Mo_open_50 (by decide) (fun c26 => ?_) (fun c26 => ?_)
        · have h := ok_t h c26
          exact w_Mo_open_65 o C0 q ih25 hi25 x1 h H locs ls hw (lv_sub hl [0, 1] rfl)
        · have h := ok_f h c26
          refine lv_iload_n hx hb d_Mo_open_53 rfl (lv_at hl 1 rfl) ?_
          refine lv_bipush (v := (64 : Int32)) hx hb d_Mo_open_54 (by decide) ?_
          refine lv_icmp_lt (tgt := 128) hx hb d_Mo_open_56 (by decide) (fun c27 => ?_) (fun c27 => ?_)
          · have h := ok_t h c27
            exact w_Mo_open_128 o C0 q x1 h H locs ls hw (lv_sub hl [0, 1] rfl)
          · have h := ok_f h c27
            refine lv_iload_n hx hb d_Mo_open_59 rfl (lv_at hl 1 rfl) ?_
            refine lv_bipush (v := (79 : Int32)) hx hb d_Mo_open_60 (by decide) ?_
            refine lv_icmp_gt (tgt := 128) hx hb d_Mo_open_62 (by decide) (fun c28 => ?_) (fun c28 => ?_)
            · have h := ok_t h c28
              exact w_Mo_open_128 o C0 q x1 h H locs ls hw (lv_sub hl [0, 1] rfl)
            · have h := ok_f h c28
              exact w_Mo_open_65 o C0 q ih25 hi25 x1 h H locs ls hw (lv_sub hl [0, 1] rfl)
theorem w_Mo_open_25 {p : Program} {l : Launch} {e : Env} {s : State} {m : MethodId} {args : Array Value} {below : List Frame} {meth : Method} {c : Code} {D : va_G} {A : Nat → Prop} {ad : Nat → Nat} {ca : Nat → ClassId} (o : z_Sg) (C0 : z_cx z_RMo b_Mo_open 2 none D (z_Mt ca) A p s m args meth c) (q : z_Sg) (x1 : Int32) (h : k_Mo_open_25 x1 q = some o) : ∀ (H : Heap) (locs : List Loc) (ls : Array Slot), z_wd D (z_M ad ca q) A s H locs → lv_has ls 2 [(0, .ref (ad 0)), (1, .int x1)] → W p l e (z_rm 5 127) s m args below meth c H locs 0 0 (z_qv below D (z_Mt ca) (z_M ad ca o) A s args) (F0 m 25 ls []) := by
  have key : ∀ (n : Nat) (a : Int32 × z_Sg), z_lo (fun ih25 a => kb_Mo_open_25 ih25 a.1 a.2) n a = some o → ∀ (H : Heap) (locs : List Loc) (ls : Array Slot), z_wd D (z_M ad ca a.2) A s H locs → lv_has ls 2 [(0, .ref (ad 0)), (1, .int a.1)] → W p l e (z_rm 5 127) s m args below meth c H locs 0 0 (z_qv below D (z_Mt ca) (z_M ad ca o) A s args) (F0 m 25 ls []) := by
    intro n
    induction n with
    | zero => intro a h; cases h
    | succ n ih => exact fun a h => wb_Mo_open_25 o C0 a.2 (z_lo (fun ih25 a => kb_Mo_open_25 ih25 a.1 a.2) n) ih a.1 h
  exact key 2000 (x1, q) h
set_option maxHeartbeats 4000000 in
set_option maxRecDepth 100000 in
theorem c_Mo_open {l : Launch} {D : va_G} {ad : Nat → Nat} {ca : Nat → ClassId} (q : z_Sg) (o : z_Sg) (h : f_Mo_open q = some o) : z_cv l y_Mo_open b_Mo_open 2 none 5 127 D (z_Mt ca) (z_M ad ca q) (z_M ad ca o) [.ref (ad 0)] := by
  refine z_cv_of (own := z_RMo) (by decide) rfl ?_
  intro p e s m below meth c A C0 hw
  obtain ⟨hx, hb, hr, hlk, hml, hown, hts, hK, hA⟩ := id C0
  generalize hH : s.heap = H at hw ⊢
  generalize hlo : ([] : List Loc) = locs at hw ⊢
  refine z_entry (lv := [(0, .ref (ad 0))]) (Nat.le_of_ble_eq_true rfl) rfl (fun ls hl => ?_)
  unfold f_Mo_open at h
  refine lv_aload_n hx hb d_Mo_open_0 rfl (lv_at hl 0 rfl) ?_
  refine lv_iconst (v := (0 : Int32)) hx hb d_Mo_open_1 (by decide) ?_
  refine pfM_0_length C0 hw fl_Mo_108 d_Mo_open_2 (fun H locs hw => ?_)
  obtain ⟨q1, eq1, h⟩ := ok_n h
  rw [← eq1] at hw
  refine lv_aload_n hx hb d_Mo_open_5 rfl (lv_at hl 0 rfl) ?_
  refine lv_iconst (v := (0 : Int32)) hx hb d_Mo_open_6 (by decide) ?_
  refine pfM_0_rex C0 hw fl_Mo_121 d_Mo_open_7 (fun H locs hw => ?_)
  obtain ⟨q2, eq2, h⟩ := ok_n h
  rw [← eq2] at hw
  refine lv_aload_n hx hb d_Mo_open_10 rfl (lv_at hl 0 rfl) ?_
  refine lv_iconst (v := (0 : Int32)) hx hb d_Mo_open_11 (by decide) ?_
  refine pfM_0_repeat C0 hw fl_Mo_124 d_Mo_open_12 (fun H locs hw => ?_)
  obtain ⟨q3, eq3, h⟩ := ok_n h
  rw [← eq3] at hw
  refine lv_aload_n hx hb d_Mo_open_15 rfl (lv_at hl 0 rfl) ?_
  refine lv_iconst (v := (0 : Int32)) hx hb d_Mo_open_16 (by decide) ?_
  refine pfM_0_small C0 hw (Or.inl rfl) fl_Mo_127 d_Mo_open_17 (fun H locs hw => ?_)
  obtain ⟨q4, eq4, h⟩ := ok_n h
  rw [← eq4] at hw
  refine lv_aload_n hx hb d_Mo_open_20 rfl (lv_at hl 0 rfl) ?_
  obtain ⟨r5, er5, h⟩ := ok_b h
  refine z_vi (rest := []) C0 hw (c_Mo_fetch q4 r5 er5) mw_Mo_fetch ml_Mo_114 0 rfl ⟨Nat.le_of_ble_eq_true rfl, Nat.le_of_ble_eq_true rfl⟩ ⟨Nat.le_refl 0, Nat.le_refl 0⟩ rfl hl.1 rfl (Nat.le_of_ble_eq_true rfl) d_Mo_open_21 (fun H locs hw => ?_)
  refine lv_istore_n (lv' := [(1, .int r5.1), (0, .ref (ad 0))]) hx hb d_Mo_open_24 rfl hl (by decide) rfl (fun ls hl => ?_)
  exact w_Mo_open_25 o C0 r5.2 r5.1 h H locs ls hw (lv_sub hl [1, 0] rfl)
def kb_Mo_step_258 (ih258 : Int32 × z_Sg → Option (Int32 × z_Sg)) (x1 : Int32) (q : z_Sg) : Option (Int32 × z_Sg) :=
  if (7 : Int32) ≤ x1 then (some ((z_gI q 4), q)) else (if z_bad x1 7 then none else (if z_bad x1 7 then none else (z_nm (z_sN q 1 x1.toNatClampNeg (vp_nar .boolean (z_gN q 2 x1.toNatClampNeg))) (fun q17 => z_nm (x1 + (1 : Int32)) (fun n18 => ih258 (n18, q17))))))
def k_Mo_step_258 (x1 : Int32) (q : z_Sg) : Option (Int32 × z_Sg) := z_lo (fun ih258 a => kb_Mo_step_258 ih258 a.1 a.2) 2000 (x1, q)
def kb_Mo_step_232 (ih232 : Int32 × z_Sg → Option (Int32 × z_Sg)) (x1 : Int32) (q : z_Sg) : Option (Int32 × z_Sg) :=
  if (16 : Int32) ≤ x1 then (k_Mo_step_258 (0 : Int32) q) else (if z_bad x1 16 then none else (if z_bad x1 16 then none else (z_nm (z_sM q 0 x1.toNatClampNeg (z_gM q 1 x1.toNatClampNeg)) (fun q21 => z_nm (x1 + (1 : Int32)) (fun n22 => ih232 (n22, q21))))))
def k_Mo_step_232 (x1 : Int32) (q : z_Sg) : Option (Int32 × z_Sg) := z_lo (fun ih232 a => kb_Mo_step_232 ih232 a.1 a.2) 2000 (x1, q)
def k_Mo_step_214 (ih174 : Int32 × z_Sg → Option (Int32 × z_Sg)) (x1 : Int32) (q : z_Sg) : Option (Int32 × z_Sg) :=
  z_nm (x1 + (1 : Int32)) (fun n27 => ih174 (n27, q))
def kb_Mo_step_174 (ih174 : Int32 × z_Sg → Option (Int32 × z_Sg)) (x1 : Int32) (q : z_Sg) : Option (Int32 × z_Sg) :=
  if (z_gI q 5) ≤ x1 then (some ((-1 : Int32), q)) else (if z_bad x1 16 then none else (if (32768 : Int64) ≤ (z_gM q 2 x1.toNatClampNeg) then (k_Mo_step_214 ih174 x1 q) else (if z_bad x1 16 then none else (if z_bad x1 16 then none else (if z_bad ((z_gM q 2 x1.toNatClampNeg).toInt32) 32768 then none else (z_nm (z_sN q 0 ((z_gM q 2 x1.toNatClampNeg).toInt32).toNatClampNeg (vp_nar .byte ((z_gN q 3 x1.toNatClampNeg).toInt8.toInt32))) (fun q31 => k_Mo_step_214 ih174 x1 q31)))))))
def k_Mo_step_174 (x1 : Int32) (q : z_Sg) : Option (Int32 × z_Sg) := z_lo (fun ih174 a => kb_Mo_step_174 ih174 a.1 a.2) 2000 (x1, q)
def k_Mo_step_156 (q : z_Sg) : Option (Int32 × z_Sg) :=
  if (z_gI q 4) = (-1 : Int32) then (z_nm (z_sL q 0 (z_gL q 7)) (fun q23 => k_Mo_step_174 (0 : Int32) q23)) else (z_gd (z_bo (z_gI q 3)) (z_nm (z_sI q 2 (z_gI q 3)) (fun q12 => k_Mo_step_232 (0 : Int32) q12)))
def k_Mo_step_153 (t1 : Int32) (t2 : Int32) (q : z_Sg) : Option (Int32 × z_Sg) :=
  none
def k_Mo_step_125 (t1 : Int32) (t2 : Int32) (q : z_Sg) : Option (Int32 × z_Sg) :=
  none
def kb_Mo_step_46 (ih46 : Int32 × z_Sg → Option (Int32 × z_Sg)) (x1 : Int32) (q : z_Sg) : Option (Int32 × z_Sg) :=
  if (7 : Int32) ≤ x1 then ((f_Mo_open q).bind (fun r7 => z_nm (z_sL r7 7 ((z_gL r7 0) + ((z_gI r7 6).toInt64))) (fun q8 => if (z_gI q8 4) = (-1 : Int32) then (if (z_gI q8 18) = 0 then (if ((z_gI q8 15) &&& (1 : Int32)) = 0 then (k_Mo_step_153 (z_gI q8 15) (1 : Int32) q8) else (none)) else (if ((z_gI q8 15) &&& (1 : Int32)) = 0 then (k_Mo_step_125 (z_gI q8 15) (1 : Int32) q8) else (none))) else (k_Mo_step_156 q8)))) else (if z_bad x1 7 then none else (if z_bad x1 7 then none else (z_nm (z_sN q 2 x1.toNatClampNeg (vp_nar .boolean (z_gN q 1 x1.toNatClampNeg))) (fun q37 => z_nm (x1 + (1 : Int32)) (fun n38 => ih46 (n38, q37))))))
def k_Mo_step_46 (x1 : Int32) (q : z_Sg) : Option (Int32 × z_Sg) := z_lo (fun ih46 a => kb_Mo_step_46 ih46 a.1 a.2) 2000 (x1, q)
def kb_Mo_step_20 (ih20 : Int32 × z_Sg → Option (Int32 × z_Sg)) (x1 : Int32) (q : z_Sg) : Option (Int32 × z_Sg) :=
  if (16 : Int32) ≤ x1 then (k_Mo_step_46 (0 : Int32) q) else (if z_bad x1 16 then none else (if z_bad x1 16 then none else (z_nm (z_sM q 1 x1.toNatClampNeg (z_gM q 0 x1.toNatClampNeg)) (fun q41 => z_nm (x1 + (1 : Int32)) (fun n42 => ih20 (n42, q41))))))
def k_Mo_step_20 (x1 : Int32) (q : z_Sg) : Option (Int32 × z_Sg) := z_lo (fun ih20 a => kb_Mo_step_20 ih20 a.1 a.2) 2000 (x1, q)
def f_Mo_step (q : z_Sg) : Option (Int32 × z_Sg) :=
  z_nm (z_sI q 4 (-1 : Int32)) (fun q1 => z_nm (z_sI q1 5 (0 : Int32)) (fun q2 => z_gd (z_bo (z_gI q2 2)) (z_nm (z_sI q2 3 (z_gI q2 2)) (fun q4 => k_Mo_step_20 (0 : Int32) q4))))
set_option maxHeartbeats 4000000 in
set_option maxRecDepth 100000 in
theorem wb_Mo_step_258 {p : Program} {l : Launch} {e : Env} {s : State} {m : MethodId} {args : Array Value} {below : List Frame} {meth : Method} {c : Code} {D : va_G} {A : Nat → Prop} {ad : Nat → Nat} {ca : Nat → ClassId} (o : (Int32 × z_Sg)) (C0 : z_cx z_RMo b_Mo_step 2 (some .int) D (z_Mt ca) A p s m args meth c) (q : z_Sg) (ih258 : Int32 × z_Sg → Option (Int32 × z_Sg)) (hi258 : ∀ a : Int32 × z_Sg, ih258 a = some o → ∀ (H : Heap) (locs : List Loc) (ls : Array Slot), z_wd D (z_M ad ca a.2) A s H locs → lv_has ls 2 [(0, .ref (ad 0)), (1, .int a.1)] → W p l e (z_rm 6 148) s m args below meth c H locs 0 0 (z_qi below D (z_Mt ca) (z_M ad ca o.2) A s args o.1) (F0 m 258 ls [])) (x1 : Int32) (h : kb_Mo_step_258 ih258 x1 q = some o) : ∀ (H : Heap) (locs : List Loc) (ls : Array Slot), z_wd D (z_M ad ca q) A s H locs → lv_has ls 2 [(0, .ref (ad 0)), (1, .int x1)] → W p l e (z_rm 6 148) s m args below meth c H locs 0 0 (z_qi below D (z_Mt ca) (z_M ad ca o.2) A s args o.1) (F0 m 258 ls []) := by
  obtain ⟨hx, hb, hr, hlk, hml, hown, hts, hK, hA⟩ := id C0
  intro H locs ls hw hl
  refine lv_iload_n hx hb d_Mo_step_258 rfl (lv_at hl 1 rfl) ?_
  refine lv_bipush (v := (7 : Int32)) hx hb d_Mo_step_259 (by decide) ?_
  refine lv_icmp_ge (tgt := 282) hx hb d_Mo_step_261 (by decide) (fun c14 => ?_) (fun c14 => ?_)
  · have h := ok_t h c14
    refine lv_aload_n hx hb d_Mo_step_282 rfl (lv_at hl 0 rfl) ?_
    refine gfM_0_refused C0 hw fl_Mo_28 d_Mo_step_283 ?_
    have ho := Option.some.inj h
    subst ho
    exact z_rti C0 hw d_Mo_step_286
  · have h := ok_f h c14
    refine lv_aload_n hx hb d_Mo_step_264 rfl (lv_at hl 0 rfl) ?_
    refine gfM_0_flag C0 hw fl_Mo_21 d_Mo_step_265 ?_
    refine lv_iload_n hx hb d_Mo_step_268 rfl (lv_at hl 1 rfl) ?_
    refine lv_aload_n hx hb d_Mo_step_269 rfl (lv_at hl 0 rfl) ?_
    refine gfM_0_oldFlag C0 hw fl_Mo_25 d_Mo_step_270 ?_
    refine lv_iload_n hx hb d_Mo_step_273 rfl (lv_at hl 1 rfl) ?_
    obtain ⟨b15, h⟩ := ok_g h
    refine alM_5 C0 hw b15 d_Mo_step_274 ?_
    obtain ⟨b16, h⟩ := ok_g h
    refine asM_4 C0 hw b16 d_Mo_step_275 (fun H locs hw => ?_)
    obtain ⟨q17, eq17, h⟩ := ok_n h
    rw [← eq17] at hw
    obtain ⟨n18, en18, h⟩ := ok_n h
    refine lv_iinc (v := n18) (lv' := [(1, .int n18), (0, .ref (ad 0))]) hx hb d_Mo_step_276 hl (k := 1) rfl (by rw [en18]; rfl) (by decide) rfl (fun ls hl => ?_)
    refine lv_goto (tgt := 258) hx hb d_Mo_step_279 (by decide) ?_
    exact hi258 (n18, q17) h H locs ls hw (lv_sub hl [1, 0] rfl)
theorem w_Mo_step_258 {p : Program} {l : Launch} {e : Env} {s : State} {m : MethodId} {args : Array Value} {below : List Frame} {meth : Method} {c : Code} {D : va_G} {A : Nat → Prop} {ad : Nat → Nat} {ca : Nat → ClassId} (o : (Int32 × z_Sg)) (C0 : z_cx z_RMo b_Mo_step 2 (some .int) D (z_Mt ca) A p s m args meth c) (q : z_Sg) (x1 : Int32) (h : k_Mo_step_258 x1 q = some o) : ∀ (H : Heap) (locs : List Loc) (ls : Array Slot), z_wd D (z_M ad ca q) A s H locs → lv_has ls 2 [(0, .ref (ad 0)), (1, .int x1)] → W p l e (z_rm 6 148) s m args below meth c H locs 0 0 (z_qi below D (z_Mt ca) (z_M ad ca o.2) A s args o.1) (F0 m 258 ls []) := by
  have key : ∀ (n : Nat) (a : Int32 × z_Sg), z_lo (fun ih258 a => kb_Mo_step_258 ih258 a.1 a.2) n a = some o → ∀ (H : Heap) (locs : List Loc) (ls : Array Slot), z_wd D (z_M ad ca a.2) A s H locs → lv_has ls 2 [(0, .ref (ad 0)), (1, .int a.1)] → W p l e (z_rm 6 148) s m args below meth c H locs 0 0 (z_qi below D (z_Mt ca) (z_M ad ca o.2) A s args o.1) (F0 m 258 ls []) := by
    intro n
    induction n with
    | zero => intro a h; cases h
    | succ n ih => exact fun a h => wb_Mo_step_258 o C0 a.2 (z_lo (fun ih258 a => kb_Mo_step_258 ih258 a.1 a.2) n) ih a.1 h
  exact key 2000 (x1, q) h
set_option maxHeartbeats 4000000 in
set_option maxRecDepth 100000 in
theorem wb_Mo_step_232 {p : Program} {l : Launch} {e : Env} {s : State} {m : MethodId} {args : Array Value} {below : List Frame} {meth : Method} {c : Code} {D : va_G} {A : Nat → Prop} {ad : Nat → Nat} {ca : Nat → ClassId} (o : (Int32 × z_Sg)) (C0 : z_cx z_RMo b_Mo_step 2 (some .int) D (z_Mt ca) A p s m args meth c) (q : z_Sg) (ih232 : Int32 × z_Sg → Option (Int32 × z_Sg)) (hi232 : ∀ a : Int32 × z_Sg, ih232 a = some o → ∀ (H : Heap) (locs : List Loc) (ls : Array Slot), z_wd D (z_M ad ca a.2) A s H locs → lv_has ls 2 [(0, .ref (ad 0)), (1, .int a.1)] → W p l e (z_rm 6 148) s m args below meth c H locs 0 0 (z_qi below D (z_Mt ca) (z_M ad ca o.2) A s args o.1) (F0 m 232 ls [])) (x1 : Int32) (h : kb_Mo_step_232 ih232 x1 q = some o) : ∀ (H : Heap) (locs : List Loc) (ls : Array Slot), z_wd D (z_M ad ca q) A s H locs → lv_has ls 2 [(0, .ref (ad 0)), (1, .int x1)] → W p l e (z_rm 6 148) s m args below meth c H locs 0 0 (z_qi below D (z_Mt ca) (z_M ad ca o.2) A s args o.1) (F0 m 232 ls []) := by
  obtain ⟨hx, hb, hr, hlk, hml, hown, hts, hK, hA⟩ := id C0
  intro H locs ls hw hl
  refine lv_iload_n hx hb d_Mo_step_232 rfl (lv_at hl 1 rfl) ?_
  refine lv_bipush (v := (16 : Int32)) hx hb d_Mo_step_233 (by decide) ?_
  refine lv_icmp_ge (tgt := 256) hx hb d_Mo_step_235 (by decide) (fun c13 => ?_) (fun c13 => ?_)
  · have h := ok_t h c13
    refine lv_iconst (v := (0 : Int32)) hx hb d_Mo_step_256 (by decide) ?_
    refine lv_istore_n (lv' := [(1, .int (0 : Int32)), (0, .ref (ad 0))]) hx hb d_Mo_step_257 rfl hl (by decide) rfl (fun ls hl => ?_)
    exact w_Mo_step_258 o C0 q (0 : Int32) h H locs ls hw (lv_sub hl [1, 0] rfl)
  · have h := ok_f h c13
    refine lv_aload_n hx hb d_Mo_step_238 rfl (lv_at hl 0 rfl) ?_
    refine gfM_0_r C0 hw fl_Mo_14 d_Mo_step_239 ?_
    refine lv_iload_n hx hb d_Mo_step_242 rfl (lv_at hl 1 rfl) ?_
    refine lv_aload_n hx hb d_Mo_step_243 rfl (lv_at hl 0 rfl) ?_
    refine gfM_0_old C0 hw fl_Mo_18 d_Mo_step_244 ?_
    refine lv_iload_n hx hb d_Mo_step_247 rfl (lv_at hl 1 rfl) ?_
    obtain ⟨b19, h⟩ := ok_g h
    refine alM_3 C0 hw b19 d_Mo_step_248 ?_
    obtain ⟨b20, h⟩ := ok_g h
    refine asM_2 C0 hw b20 d_Mo_step_249 (fun H locs hw => ?_)
    obtain ⟨q21, eq21, h⟩ := ok_n h
    rw [← eq21] at hw
    obtain ⟨n22, en22, h⟩ := ok_n h
    refine lv_iinc (v := n22) (lv' := [(1, .int n22), (0, .ref (ad 0))]) hx hb d_Mo_step_250 hl (k := 1) rfl (by rw [en22]; rfl) (by decide) rfl (fun ls hl => ?_)
    refine lv_goto (tgt := 232) hx hb d_Mo_step_253 (by decide) ?_
    exact hi232 (n22, q21) h H locs ls hw (lv_sub hl [1, 0] rfl)
theorem w_Mo_step_232 {p : Program} {l : Launch} {e : Env} {s : State} {m : MethodId} {args : Array Value} {below : List Frame} {meth : Method} {c : Code} {D : va_G} {A : Nat → Prop} {ad : Nat → Nat} {ca : Nat → ClassId} (o : (Int32 × z_Sg)) (C0 : z_cx z_RMo b_Mo_step 2 (some .int) D (z_Mt ca) A p s m args meth c) (q : z_Sg) (x1 : Int32) (h : k_Mo_step_232 x1 q = some o) : ∀ (H : Heap) (locs : List Loc) (ls : Array Slot), z_wd D (z_M ad ca q) A s H locs → lv_has ls 2 [(0, .ref (ad 0)), (1, .int x1)] → W p l e (z_rm 6 148) s m args below meth c H locs 0 0 (z_qi below D (z_Mt ca) (z_M ad ca o.2) A s args o.1) (F0 m 232 ls []) := by
  have key : ∀ (n : Nat) (a : Int32 × z_Sg), z_lo (fun ih232 a => kb_Mo_step_232 ih232 a.1 a.2) n a = some o → ∀ (H : Heap) (locs : List Loc) (ls : Array Slot), z_wd D (z_M ad ca a.2) A s H locs → lv_has ls 2 [(0, .ref (ad 0)), (1, .int a.1)] → W p l e (z_rm 6 148) s m args below meth c H locs 0 0 (z_qi below D (z_Mt ca) (z_M ad ca o.2) A s args o.1) (F0 m 232 ls []) := by
    intro n
    induction n with
    | zero => intro a h; cases h
    | succ n ih => exact fun a h => wb_Mo_step_232 o C0 a.2 (z_lo (fun ih232 a => kb_Mo_step_232 ih232 a.1 a.2) n) ih a.1 h
  exact key 2000 (x1, q) h
set_option maxHeartbeats 4000000 in
set_option maxRecDepth 100000 in
theorem w_Mo_step_214 {p : Program} {l : Launch} {e : Env} {s : State} {m : MethodId} {args : Array Value} {below : List Frame} {meth : Method} {c : Code} {D : va_G} {A : Nat → Prop} {ad : Nat → Nat} {ca : Nat → ClassId} (o : (Int32 × z_Sg)) (C0 : z_cx z_RMo b_Mo_step 2 (some .int) D (z_Mt ca) A p s m args meth c) (q : z_Sg) (ih174 : Int32 × z_Sg → Option (Int32 × z_Sg)) (hi174 : ∀ a : Int32 × z_Sg, ih174 a = some o → ∀ (H : Heap) (locs : List Loc) (ls : Array Slot), z_wd D (z_M ad ca a.2) A s H locs → lv_has ls 2 [(0, .ref (ad 0)), (1, .int a.1)] → W p l e (z_rm 6 148) s m args below meth c H locs 0 0 (z_qi below D (z_Mt ca) (z_M ad ca o.2) A s args o.1) (F0 m 174 ls [])) (x1 : Int32) (h : k_Mo_step_214 ih174 x1 q = some o) : ∀ (H : Heap) (locs : List Loc) (ls : Array Slot), z_wd D (z_M ad ca q) A s H locs → lv_has ls 2 [(0, .ref (ad 0)), (1, .int x1)] → W p l e (z_rm 6 148) s m args below meth c H locs 0 0 (z_qi below D (z_Mt ca) (z_M ad ca o.2) A s args o.1) (F0 m 214 ls []) := by
  obtain ⟨hx, hb, hr, hlk, hml, hown, hts, hK, hA⟩ := id C0
  intro H locs ls hw hl
  obtain ⟨n27, en27, h⟩ := ok_n h
  refine lv_iinc (v := n27) (lv' := [(1, .int n27), (0, .ref (ad 0))]) hx hb d_Mo_step_214 hl (k := 1) rfl (by rw [en27]; rfl) (by decide) rfl (fun ls hl => ?_)
  refine lv_goto (tgt := 174) hx hb d_Mo_step_217 (by decide) ?_
  exact hi174 (n27, q) h H locs ls hw (lv_sub hl [1, 0] rfl)
set_option maxHeartbeats 4000000 in
set_option maxRecDepth 100000 in
theorem wb_Mo_step_174 {p : Program} {l : Launch} {e : Env} {s : State} {m : MethodId} {args : Array Value} {below : List Frame} {meth : Method} {c : Code} {D : va_G} {A : Nat → Prop} {ad : Nat → Nat} {ca : Nat → ClassId} (o : (Int32 × z_Sg)) (C0 : z_cx z_RMo b_Mo_step 2 (some .int) D (z_Mt ca) A p s m args meth c) (q : z_Sg) (ih174 : Int32 × z_Sg → Option (Int32 × z_Sg)) (hi174 : ∀ a : Int32 × z_Sg, ih174 a = some o → ∀ (H : Heap) (locs : List Loc) (ls : Array Slot), z_wd D (z_M ad ca a.2) A s H locs → lv_has ls 2 [(0, .ref (ad 0)), (1, .int a.1)] → W p l e (z_rm 6 148) s m args below meth c H locs 0 0 (z_qi below D (z_Mt ca) (z_M ad ca o.2) A s args o.1) (F0 m 174 ls [])) (x1 : Int32) (h : kb_Mo_step_174 ih174 x1 q = some o) : ∀ (H : Heap) (locs : List Loc) (ls : Array Slot), z_wd D (z_M ad ca q) A s H locs → lv_has ls 2 [(0, .ref (ad 0)), (1, .int x1)] → W p l e (z_rm 6 148) s m args below meth c H locs 0 0 (z_qi below D (z_Mt ca) (z_M ad ca o.2) A s args o.1) (F0 m 174 ls []) := by
  obtain ⟨hx, hb, hr, hlk, hml, hown, hts, hK, hA⟩ := id C0
  intro H locs ls hw hl
  refine lv_iload_n hx hb d_Mo_step_174 rfl (lv_at hl 1 rfl) ?_
  refine lv_aload_n hx hb d_Mo_step_175 rfl (lv_at hl 0 rfl) ?_
  refine gfM_0_waits C0 hw fl_Mo_103 d_Mo_step_176 ?_
  refine lv_icmp_ge (tgt := 220) hx hb d_Mo_step_179 (by decide) (fun c24 => ?_) (fun c24 => ?_)
  · have h := ok_t h c24
    refine lv_iconst (v := (-1 : Int32)) hx hb d_Mo_step_220 (by decide) ?_
    have ho := Option.some.inj h
    subst ho
    exact z_rti C0 hw d_Mo_step_221
  · have h := ok_f h c24
    refine lv_aload_n hx hb d_Mo_step_182 rfl (lv_at hl 0 rfl) ?_
    refine gfM_0_waitAt C0 hw fl_Mo_32 d_Mo_step_183 ?_
    refine lv_iload_n hx hb d_Mo_step_186 rfl (lv_at hl 1 rfl) ?_
    obtain ⟨b25, h⟩ := ok_g h
    refine alM_6 C0 hw b25 d_Mo_step_187 ?_
    refine lv_ldc2 (own := z_RMo) hx hb hown (hts _ kl_Mo_42) d_Mo_step_188 ?_
    refine W.lcmp hx hb d_Mo_step_191 ?_
    refine lv_if_ge (tgt := 214) hx hb d_Mo_step_192 (by decide) (fun c26 => ?_) (fun c26 => ?_)
    · have h := ok_t h ((lg_cmp_ge _ _).mp c26)
      exact w_Mo_step_214 o C0 q ih174 hi174 x1 h H locs ls hw (lv_sub hl [0, 1] rfl)
    · have h := ok_f h (fun z => c26 ((lg_cmp_ge _ _).mpr z))
      refine lv_aload_n hx hb d_Mo_step_195 rfl (lv_at hl 0 rfl) ?_
      refine gfM_0_memory C0 hw fl_Mo_8 d_Mo_step_196 ?_
      refine lv_aload_n hx hb d_Mo_step_199 rfl (lv_at hl 0 rfl) ?_
      refine gfM_0_waitAt C0 hw fl_Mo_32 d_Mo_step_200 ?_
      refine lv_iload_n hx hb d_Mo_step_203 rfl (lv_at hl 1 rfl) ?_
      obtain ⟨b28, h⟩ := ok_g h
      refine alM_6 C0 hw b28 d_Mo_step_204 ?_
      refine lv_l2i hx hb d_Mo_step_205 rfl ?_
      refine lv_aload_n hx hb d_Mo_step_206 rfl (lv_at hl 0 rfl) ?_
      refine gfM_0_waitByte C0 hw fl_Mo_35 d_Mo_step_207 ?_
      refine lv_iload_n hx hb d_Mo_step_210 rfl (lv_at hl 1 rfl) ?_
      obtain ⟨b29, h⟩ := ok_g h
      refine alM_7 C0 hw b29 d_Mo_step_211 ?_
      refine lv_i2b hx hb d_Mo_step_212 rfl ?_
      obtain ⟨b30, h⟩ := ok_g h
      refine asM_1 C0 hw b30 d_Mo_step_213 (fun H locs hw => ?_)
      obtain ⟨q31, eq31, h⟩ := ok_n h
      rw [← eq31] at hw
      exact w_Mo_step_214 o C0 q31 ih174 hi174 x1 h H locs ls hw (lv_sub hl [0, 1] rfl)
theorem w_Mo_step_174 {p : Program} {l : Launch} {e : Env} {s : State} {m : MethodId} {args : Array Value} {below : List Frame} {meth : Method} {c : Code} {D : va_G} {A : Nat → Prop} {ad : Nat → Nat} {ca : Nat → ClassId} (o : (Int32 × z_Sg)) (C0 : z_cx z_RMo b_Mo_step 2 (some .int) D (z_Mt ca) A p s m args meth c) (q : z_Sg) (x1 : Int32) (h : k_Mo_step_174 x1 q = some o) : ∀ (H : Heap) (locs : List Loc) (ls : Array Slot), z_wd D (z_M ad ca q) A s H locs → lv_has ls 2 [(0, .ref (ad 0)), (1, .int x1)] → W p l e (z_rm 6 148) s m args below meth c H locs 0 0 (z_qi below D (z_Mt ca) (z_M ad ca o.2) A s args o.1) (F0 m 174 ls []) := by
  have key : ∀ (n : Nat) (a : Int32 × z_Sg), z_lo (fun ih174 a => kb_Mo_step_174 ih174 a.1 a.2) n a = some o → ∀ (H : Heap) (locs : List Loc) (ls : Array Slot), z_wd D (z_M ad ca a.2) A s H locs → lv_has ls 2 [(0, .ref (ad 0)), (1, .int a.1)] → W p l e (z_rm 6 148) s m args below meth c H locs 0 0 (z_qi below D (z_Mt ca) (z_M ad ca o.2) A s args o.1) (F0 m 174 ls []) := by
    intro n
    induction n with
    | zero => intro a h; cases h
    | succ n ih => exact fun a h => wb_Mo_step_174 o C0 a.2 (z_lo (fun ih174 a => kb_Mo_step_174 ih174 a.1 a.2) n) ih a.1 h
  exact key 2000 (x1, q) h
set_option maxHeartbeats 4000000 in
set_option maxRecDepth 100000 in
theorem w_Mo_step_156 {p : Program} {l : Launch} {e : Env} {s : State} {m : MethodId} {args : Array Value} {below : List Frame} {meth : Method} {c : Code} {D : va_G} {A : Nat → Prop} {ad : Nat → Nat} {ca : Nat → ClassId} (o : (Int32 × z_Sg)) (C0 : z_cx z_RMo b_Mo_step 2 (some .int) D (z_Mt ca) A p s m args meth c) (q : z_Sg) (h : k_Mo_step_156 q = some o) : ∀ (H : Heap) (locs : List Loc) (ls : Array Slot), z_wd D (z_M ad ca q) A s H locs → lv_has ls 2 [(0, .ref (ad 0))] → W p l e (z_rm 6 148) s m args below meth c H locs 0 0 (z_qi below D (z_Mt ca) (z_M ad ca o.2) A s args o.1) (F0 m 156 ls []) := by
  obtain ⟨hx, hb, hr, hlk, hml, hown, hts, hK, hA⟩ := id C0
  intro H locs ls hw hl
  refine lv_aload_n hx hb d_Mo_step_156 rfl (lv_at hl 0 rfl) ?_
  refine gfM_0_refused C0 hw fl_Mo_28 d_Mo_step_157 ?_
  refine lv_iconst (v := (-1 : Int32)) hx hb d_Mo_step_160 (by decide) ?_
  refine lv_icmp_ne (tgt := 222) hx hb d_Mo_step_161 (by decide) (fun c10 => ?_) (fun c10 => ?_)
  · have h := ok_f h c10
    refine lv_aload_n hx hb d_Mo_step_222 rfl (lv_at hl 0 rfl) ?_
    refine lv_aload_n hx hb d_Mo_step_223 rfl (lv_at hl 0 rfl) ?_
    refine gfM_0_oldUser C0 hw fl_Mo_229 d_Mo_step_224 ?_
    obtain ⟨b11, h⟩ := ok_G h
    refine pfM_0_user C0 hw b11 fl_Mo_48 d_Mo_step_227 (fun H locs hw => ?_)
    obtain ⟨q12, eq12, h⟩ := ok_n h
    rw [← eq12] at hw
    refine lv_iconst (v := (0 : Int32)) hx hb d_Mo_step_230 (by decide) ?_
    refine lv_istore_n (lv' := [(1, .int (0 : Int32)), (0, .ref (ad 0))]) hx hb d_Mo_step_231 rfl hl (by decide) rfl (fun ls hl => ?_)
    exact w_Mo_step_232 o C0 q12 (0 : Int32) h H locs ls hw (lv_sub hl [1, 0] rfl)
  · have h := ok_t h c10
    refine lv_aload_n hx hb d_Mo_step_164 rfl (lv_at hl 0 rfl) ?_
    refine lv_aload_n hx hb d_Mo_step_165 rfl (lv_at hl 0 rfl) ?_
    refine gfM_0_goes C0 hw fl_Mo_173 d_Mo_step_166 ?_
    refine pfM_0_next C0 hw fl_Mo_111 d_Mo_step_169 (fun H locs hw => ?_)
    obtain ⟨q23, eq23, h⟩ := ok_n h
    rw [← eq23] at hw
    refine lv_iconst (v := (0 : Int32)) hx hb d_Mo_step_172 (by decide) ?_
    refine lv_istore_n (lv' := [(1, .int (0 : Int32)), (0, .ref (ad 0))]) hx hb d_Mo_step_173 rfl hl (by decide) rfl (fun ls hl => ?_)
    exact w_Mo_step_174 o C0 q23 (0 : Int32) h H locs ls hw (lv_sub hl [1, 0] rfl)
set_option maxHeartbeats 4000000 in
set_option maxRecDepth 100000 in
theorem w_Mo_step_153 {p : Program} {l : Launch} {e : Env} {s : State} {m : MethodId} {args : Array Value} {below : List Frame} {meth : Method} {c : Code} {D : va_G} {A : Nat → Prop} {ad : Nat → Nat} {ca : Nat → ClassId} (o : (Int32 × z_Sg)) (C0 : z_cx z_RMo b_Mo_step 2 (some .int) D (z_Mt ca) A p s m args meth c) (q : z_Sg) (t1 : Int32) (t2 : Int32) (h : k_Mo_step_153 t1 t2 q = some o) : ∀ (H : Heap) (locs : List Loc) (ls : Array Slot), z_wd D (z_M ad ca q) A s H locs → lv_has ls 2 [(0, .ref (ad 0))] → W p l e (z_rm 6 148) s m args below meth c H locs 0 0 (z_qi below D (z_Mt ca) (z_M ad ca o.2) A s args o.1) (F0 m 153 ls [.int t2, .int t1, .ref (ad 0)]) := by
  obtain ⟨hx, hb, hr, hlk, hml, hown, hts, hK, hA⟩ := id C0
  intro H locs ls hw hl
  cases h
set_option maxHeartbeats 4000000 in
set_option maxRecDepth 100000 in
theorem w_Mo_step_125 {p : Program} {l : Launch} {e : Env} {s : State} {m : MethodId} {args : Array Value} {below : List Frame} {meth : Method} {c : Code} {D : va_G} {A : Nat → Prop} {ad : Nat → Nat} {ca : Nat → ClassId} (o : (Int32 × z_Sg)) (C0 : z_cx z_RMo b_Mo_step 2 (some .int) D (z_Mt ca) A p s m args meth c) (q : z_Sg) (t1 : Int32) (t2 : Int32) (h : k_Mo_step_125 t1 t2 q = some o) : ∀ (H : Heap) (locs : List Loc) (ls : Array Slot), z_wd D (z_M ad ca q) A s H locs → lv_has ls 2 [(0, .ref (ad 0))] → W p l e (z_rm 6 148) s m args below meth c H locs 0 0 (z_qi below D (z_Mt ca) (z_M ad ca o.2) A s args o.1) (F0 m 125 ls [.int t2, .int t1, .ref (ad 0)]) := by
  obtain ⟨hx, hb, hr, hlk, hml, hown, hts, hK, hA⟩ := id C0
  intro H locs ls hw hl
  cases h
set_option maxHeartbeats 4000000 in
set_option maxRecDepth 100000 in
theorem wb_Mo_step_46 {p : Program} {l : Launch} {e : Env} {s : State} {m : MethodId} {args : Array Value} {below : List Frame} {meth : Method} {c : Code} {D : va_G} {A : Nat → Prop} {ad : Nat → Nat} {ca : Nat → ClassId} (o : (Int32 × z_Sg)) (C0 : z_cx z_RMo b_Mo_step 2 (some .int) D (z_Mt ca) A p s m args meth c) (q : z_Sg) (ih46 : Int32 × z_Sg → Option (Int32 × z_Sg)) (hi46 : ∀ a : Int32 × z_Sg, ih46 a = some o → ∀ (H : Heap) (locs : List Loc) (ls : Array Slot), z_wd D (z_M ad ca a.2) A s H locs → lv_has ls 2 [(0, .ref (ad 0)), (1, .int a.1)] → W p l e (z_rm 6 148) s m args below meth c H locs 0 0 (z_qi below D (z_Mt ca) (z_M ad ca o.2) A s args o.1) (F0 m 46 ls [])) (x1 : Int32) (h : kb_Mo_step_46 ih46 x1 q = some o) : ∀ (H : Heap) (locs : List Loc) (ls : Array Slot), z_wd D (z_M ad ca q) A s H locs → lv_has ls 2 [(0, .ref (ad 0)), (1, .int x1)] → W p l e (z_rm 6 148) s m args below meth c H locs 0 0 (z_qi below D (z_Mt ca) (z_M ad ca o.2) A s args o.1) (F0 m 46 ls []) := by
  obtain ⟨hx, hb, hr, hlk, hml, hown, hts, hK, hA⟩ := id C0
  intro H locs ls hw hl
  refine lv_iload_n hx hb d_Mo_step_46 rfl (lv_at hl 1 rfl) ?_
  refine lv_bipush (v := (7 : Int32)) hx hb d_Mo_step_47 (by decide) ?_
  refine lv_icmp_ge (tgt := 70) hx hb d_Mo_step_49 (by decide) (fun c6 => ?_) (fun c6 => ?_)
  · have h := ok_t h c6
    refine lv_aload_n hx hb d_Mo_step_70 rfl (lv_at hl 0 rfl) ?_
    obtain ⟨r7, er7, h⟩ := ok_b h
    refine z_vv (rest := []) C0 hw (c_Mo_open q r7 er7) mw_Mo_open ml_Mo_232 0 rfl ⟨Nat.le_of_ble_eq_true rfl, Nat.le_of_ble_eq_true rfl⟩ ⟨Nat.le_refl 0, Nat.le_refl 0⟩ rfl hl.1 rfl (Nat.le_of_ble_eq_true rfl) d_Mo_step_71 (fun H locs hw => ?_)
    refine lv_aload_n hx hb d_Mo_step_74 rfl (lv_at hl 0 rfl) ?_
    refine lv_aload_n hx hb d_Mo_step_75 rfl (lv_at hl 0 rfl) ?_
    refine gfM_0_next C0 hw fl_Mo_111 d_Mo_step_76 ?_
    refine lv_aload_n hx hb d_Mo_step_79 rfl (lv_at hl 0 rfl) ?_
    refine gfM_0_length C0 hw fl_Mo_108 d_Mo_step_80 ?_
    refine lv_i2l hx hb d_Mo_step_83 rfl ?_
    refine lv_ladd hx hb d_Mo_step_84 ?_
    refine pfM_0_goes C0 hw fl_Mo_173 d_Mo_step_85 (fun H locs hw => ?_)
    obtain ⟨q8, eq8, h⟩ := ok_n h
    rw [← eq8] at hw
    refine lv_aload_n hx hb d_Mo_step_88 rfl (lv_at hl 0 rfl) ?_
    refine gfM_0_refused C0 hw fl_Mo_28 d_Mo_step_89 ?_
    refine lv_iconst (v := (-1 : Int32)) hx hb d_Mo_step_92 (by decide) ?_
    refine lv_icmp_ne (tgt := 156) hx hb d_Mo_step_93 (by decide) (fun c9 => ?_) (fun c9 => ?_)
    · have h := ok_f h c9
      exact w_Mo_step_156 o C0 q8 h H locs ls hw (lv_sub hl [0] rfl)
    · have h := ok_t h c9
      refine lv_aload_n hx hb d_Mo_step_96 rfl (lv_at hl 0 rfl) ?_
      refine gfM_0_two C0 hw fl_Mo_130 d_Mo_step_97 ?_
      refine lv_if_eq (tgt := 131) hx hb d_Mo_step_100 (by decide) (fun c32 => ?_) (fun c32 => ?_)
      · have h := ok_t h c32
        refine lv_aload_n hx hb d_Mo_step_131 rfl (lv_at hl 0 rfl) ?_
        refine lv_aload_n hx hb d_Mo_step_132 rfl (lv_at hl 0 rfl) ?_
        refine gfM_0_opcode C0 hw fl_Mo_133 d_Mo_step_133 ?_
        refine lv_aload_n hx hb d_Mo_step_136 rfl (lv_at hl 0 rfl) ?_
        refine gfM_0_opcode C0 hw fl_Mo_133 d_Mo_step_137 ?_
        refine lv_iconst (v := (1 : Int32)) hx hb d_Mo_step_140 (by decide) ?_
        refine lv_iand hx hb d_Mo_step_141 ?_
        refine lv_if_ne (tgt := 149) hx hb d_Mo_step_142 (by decide) (fun c33 => ?_) (fun c33 => ?_)
        · have h := ok_f h c33
          refine lv_aload_n hx hb d_Mo_step_149 rfl (lv_at hl 0 rfl) ?_
          cases h
        · have h := ok_t h c33
          refine lv_iconst (v := (1 : Int32)) hx hb d_Mo_step_145 (by decide) ?_
          refine lv_goto (tgt := 153) hx hb d_Mo_step_146 (by decide) ?_
          exact w_Mo_step_153 o C0 q8 (z_gI q8 15) (1 : Int32) h H locs ls hw (lv_sub hl [0] rfl)
      · have h := ok_f h c32
        refine lv_aload_n hx hb d_Mo_step_103 rfl (lv_at hl 0 rfl) ?_
        refine lv_aload_n hx hb d_Mo_step_104 rfl (lv_at hl 0 rfl) ?_
        refine gfM_0_opcode C0 hw fl_Mo_133 d_Mo_step_105 ?_
        refine lv_aload_n hx hb d_Mo_step_108 rfl (lv_at hl 0 rfl) ?_
        refine gfM_0_opcode C0 hw fl_Mo_133 d_Mo_step_109 ?_
        refine lv_iconst (v := (1 : Int32)) hx hb d_Mo_step_112 (by decide) ?_
        refine lv_iand hx hb d_Mo_step_113 ?_
        refine lv_if_ne (tgt := 121) hx hb d_Mo_step_114 (by decide) (fun c34 => ?_) (fun c34 => ?_)
        · have h := ok_f h c34
          refine lv_aload_n hx hb d_Mo_step_121 rfl (lv_at hl 0 rfl) ?_
          cases h
        · have h := ok_t h c34
          refine lv_iconst (v := (1 : Int32)) hx hb d_Mo_step_117 (by decide) ?_
          refine lv_goto (tgt := 125) hx hb d_Mo_step_118 (by decide) ?_
          exact w_Mo_step_125 o C0 q8 (z_gI q8 15) (1 : Int32) h H locs ls hw (lv_sub hl [0] rfl)
  · have h := ok_f h c6
    refine lv_aload_n hx hb d_Mo_step_52 rfl (lv_at hl 0 rfl) ?_
    refine gfM_0_oldFlag C0 hw fl_Mo_25 d_Mo_step_53 ?_
    refine lv_iload_n hx hb d_Mo_step_56 rfl (lv_at hl 1 rfl) ?_
    refine lv_aload_n hx hb d_Mo_step_57 rfl (lv_at hl 0 rfl) ?_
    refine gfM_0_flag C0 hw fl_Mo_21 d_Mo_step_58 ?_
    refine lv_iload_n hx hb d_Mo_step_61 rfl (lv_at hl 1 rfl) ?_
    obtain ⟨b35, h⟩ := ok_g h
    refine alM_4 C0 hw b35 d_Mo_step_62 ?_
    obtain ⟨b36, h⟩ := ok_g h
    refine asM_5 C0 hw b36 d_Mo_step_63 (fun H locs hw => ?_)
    obtain ⟨q37, eq37, h⟩ := ok_n h
    rw [← eq37] at hw
    obtain ⟨n38, en38, h⟩ := ok_n h
    refine lv_iinc (v := n38) (lv' := [(1, .int n38), (0, .ref (ad 0))]) hx hb d_Mo_step_64 hl (k := 1) rfl (by rw [en38]; rfl) (by decide) rfl (fun ls hl => ?_)
    refine lv_goto (tgt := 46) hx hb d_Mo_step_67 (by decide) ?_
    exact hi46 (n38, q37) h H locs ls hw (lv_sub hl [1, 0] rfl)
theorem w_Mo_step_46 {p : Program} {l : Launch} {e : Env} {s : State} {m : MethodId} {args : Array Value} {below : List Frame} {meth : Method} {c : Code} {D : va_G} {A : Nat → Prop} {ad : Nat → Nat} {ca : Nat → ClassId} (o : (Int32 × z_Sg)) (C0 : z_cx z_RMo b_Mo_step 2 (some .int) D (z_Mt ca) A p s m args meth c) (q : z_Sg) (x1 : Int32) (h : k_Mo_step_46 x1 q = some o) : ∀ (H : Heap) (locs : List Loc) (ls : Array Slot), z_wd D (z_M ad ca q) A s H locs → lv_has ls 2 [(0, .ref (ad 0)), (1, .int x1)] → W p l e (z_rm 6 148) s m args below meth c H locs 0 0 (z_qi below D (z_Mt ca) (z_M ad ca o.2) A s args o.1) (F0 m 46 ls []) := by
  have key : ∀ (n : Nat) (a : Int32 × z_Sg), z_lo (fun ih46 a => kb_Mo_step_46 ih46 a.1 a.2) n a = some o → ∀ (H : Heap) (locs : List Loc) (ls : Array Slot), z_wd D (z_M ad ca a.2) A s H locs → lv_has ls 2 [(0, .ref (ad 0)), (1, .int a.1)] → W p l e (z_rm 6 148) s m args below meth c H locs 0 0 (z_qi below D (z_Mt ca) (z_M ad ca o.2) A s args o.1) (F0 m 46 ls []) := by
    intro n
    induction n with
    | zero => intro a h; cases h
    | succ n ih => exact fun a h => wb_Mo_step_46 o C0 a.2 (z_lo (fun ih46 a => kb_Mo_step_46 ih46 a.1 a.2) n) ih a.1 h
  exact key 2000 (x1, q) h
set_option maxHeartbeats 4000000 in
set_option maxRecDepth 100000 in
theorem wb_Mo_step_20 {p : Program} {l : Launch} {e : Env} {s : State} {m : MethodId} {args : Array Value} {below : List Frame} {meth : Method} {c : Code} {D : va_G} {A : Nat → Prop} {ad : Nat → Nat} {ca : Nat → ClassId} (o : (Int32 × z_Sg)) (C0 : z_cx z_RMo b_Mo_step 2 (some .int) D (z_Mt ca) A p s m args meth c) (q : z_Sg) (ih20 : Int32 × z_Sg → Option (Int32 × z_Sg)) (hi20 : ∀ a : Int32 × z_Sg, ih20 a = some o → ∀ (H : Heap) (locs : List Loc) (ls : Array Slot), z_wd D (z_M ad ca a.2) A s H locs → lv_has ls 2 [(0, .ref (ad 0)), (1, .int a.1)] → W p l e (z_rm 6 148) s m args below meth c H locs 0 0 (z_qi below D (z_Mt ca) (z_M ad ca o.2) A s args o.1) (F0 m 20 ls [])) (x1 : Int32) (h : kb_Mo_step_20 ih20 x1 q = some o) : ∀ (H : Heap) (locs : List Loc) (ls : Array Slot), z_wd D (z_M ad ca q) A s H locs → lv_has ls 2 [(0, .ref (ad 0)), (1, .int x1)] → W p l e (z_rm 6 148) s m args below meth c H locs 0 0 (z_qi below D (z_Mt ca) (z_M ad ca o.2) A s args o.1) (F0 m 20 ls []) := by
  obtain ⟨hx, hb, hr, hlk, hml, hown, hts, hK, hA⟩ := id C0
  intro H locs ls hw hl
  refine lv_iload_n hx hb d_Mo_step_20 rfl (lv_at hl 1 rfl) ?_
  refine lv_bipush (v := (16 : Int32)) hx hb d_Mo_step_21 (by decide) ?_
  refine lv_icmp_ge (tgt := 44) hx hb d_Mo_step_23 (by decide) (fun c5 => ?_) (fun c5 => ?_)
  · have h := ok_t h c5
    refine lv_iconst (v := (0 : Int32)) hx hb d_Mo_step_44 (by decide) ?_
    refine lv_istore_n (lv' := [(1, .int (0 : Int32)), (0, .ref (ad 0))]) hx hb d_Mo_step_45 rfl hl (by decide) rfl (fun ls hl => ?_)
    exact w_Mo_step_46 o C0 q (0 : Int32) h H locs ls hw (lv_sub hl [1, 0] rfl)
  · have h := ok_f h c5
    refine lv_aload_n hx hb d_Mo_step_26 rfl (lv_at hl 0 rfl) ?_
    refine gfM_0_old C0 hw fl_Mo_18 d_Mo_step_27 ?_
    refine lv_iload_n hx hb d_Mo_step_30 rfl (lv_at hl 1 rfl) ?_
    refine lv_aload_n hx hb d_Mo_step_31 rfl (lv_at hl 0 rfl) ?_
    refine gfM_0_r C0 hw fl_Mo_14 d_Mo_step_32 ?_
    refine lv_iload_n hx hb d_Mo_step_35 rfl (lv_at hl 1 rfl) ?_
    obtain ⟨b39, h⟩ := ok_g h
    refine alM_2 C0 hw b39 d_Mo_step_36 ?_
    obtain ⟨b40, h⟩ := ok_g h
    refine asM_3 C0 hw b40 d_Mo_step_37 (fun H locs hw => ?_)
    obtain ⟨q41, eq41, h⟩ := ok_n h
    rw [← eq41] at hw
    obtain ⟨n42, en42, h⟩ := ok_n h
    refine lv_iinc (v := n42) (lv' := [(1, .int n42), (0, .ref (ad 0))]) hx hb d_Mo_step_38 hl (k := 1) rfl (by rw [en42]; rfl) (by decide) rfl (fun ls hl => ?_)
    refine lv_goto (tgt := 20) hx hb d_Mo_step_41 (by decide) ?_
    exact hi20 (n42, q41) h H locs ls hw (lv_sub hl [1, 0] rfl)
theorem w_Mo_step_20 {p : Program} {l : Launch} {e : Env} {s : State} {m : MethodId} {args : Array Value} {below : List Frame} {meth : Method} {c : Code} {D : va_G} {A : Nat → Prop} {ad : Nat → Nat} {ca : Nat → ClassId} (o : (Int32 × z_Sg)) (C0 : z_cx z_RMo b_Mo_step 2 (some .int) D (z_Mt ca) A p s m args meth c) (q : z_Sg) (x1 : Int32) (h : k_Mo_step_20 x1 q = some o) : ∀ (H : Heap) (locs : List Loc) (ls : Array Slot), z_wd D (z_M ad ca q) A s H locs → lv_has ls 2 [(0, .ref (ad 0)), (1, .int x1)] → W p l e (z_rm 6 148) s m args below meth c H locs 0 0 (z_qi below D (z_Mt ca) (z_M ad ca o.2) A s args o.1) (F0 m 20 ls []) := by
  have key : ∀ (n : Nat) (a : Int32 × z_Sg), z_lo (fun ih20 a => kb_Mo_step_20 ih20 a.1 a.2) n a = some o → ∀ (H : Heap) (locs : List Loc) (ls : Array Slot), z_wd D (z_M ad ca a.2) A s H locs → lv_has ls 2 [(0, .ref (ad 0)), (1, .int a.1)] → W p l e (z_rm 6 148) s m args below meth c H locs 0 0 (z_qi below D (z_Mt ca) (z_M ad ca o.2) A s args o.1) (F0 m 20 ls []) := by
    intro n
    induction n with
    | zero => intro a h; cases h
    | succ n ih => exact fun a h => wb_Mo_step_20 o C0 a.2 (z_lo (fun ih20 a => kb_Mo_step_20 ih20 a.1 a.2) n) ih a.1 h
  exact key 2000 (x1, q) h
set_option maxHeartbeats 4000000 in
set_option maxRecDepth 100000 in
theorem c_Mo_step {l : Launch} {D : va_G} {ad : Nat → Nat} {ca : Nat → ClassId} (q : z_Sg) (o : (Int32 × z_Sg)) (h : f_Mo_step q = some o) : z_ci l y_Mo_step b_Mo_step 2 (some .int) 6 148 D (z_Mt ca) (z_M ad ca q) (z_M ad ca o.2) [.ref (ad 0)] o.1 := by
  refine z_ci_of (own := z_RMo) (by decide) rfl ?_
  intro p e s m below meth c A C0 hw
  obtain ⟨hx, hb, hr, hlk, hml, hown, hts, hK, hA⟩ := id C0
  generalize hH : s.heap = H at hw ⊢
  generalize hlo : ([] : List Loc) = locs at hw ⊢
  refine z_entry (lv := [(0, .ref (ad 0))]) (Nat.le_of_ble_eq_true rfl) rfl (fun ls hl => ?_)
  unfold f_Mo_step at h
  refine lv_aload_n hx hb d_Mo_step_0 rfl (lv_at hl 0 rfl) ?_
  refine lv_iconst (v := (-1 : Int32)) hx hb d_Mo_step_1 (by decide) ?_
  refine pfM_0_refused C0 hw fl_Mo_28 d_Mo_step_2 (fun H locs hw => ?_)
  obtain ⟨q1, eq1, h⟩ := ok_n h
  rw [← eq1] at hw
  refine lv_aload_n hx hb d_Mo_step_5 rfl (lv_at hl 0 rfl) ?_
  refine lv_iconst (v := (0 : Int32)) hx hb d_Mo_step_6 (by decide) ?_
  refine pfM_0_waits C0 hw fl_Mo_103 d_Mo_step_7 (fun H locs hw => ?_)
  obtain ⟨q2, eq2, h⟩ := ok_n h
  rw [← eq2] at hw
  refine lv_aload_n hx hb d_Mo_step_10 rfl (lv_at hl 0 rfl) ?_
  refine lv_aload_n hx hb d_Mo_step_11 rfl (lv_at hl 0 rfl) ?_
  refine gfM_0_user C0 hw fl_Mo_48 d_Mo_step_12 ?_
  obtain ⟨b3, h⟩ := ok_G h
  refine pfM_0_oldUser C0 hw b3 fl_Mo_229 d_Mo_step_15 (fun H locs hw => ?_)
  obtain ⟨q4, eq4, h⟩ := ok_n h
  rw [← eq4] at hw
  refine lv_iconst (v := (0 : Int32)) hx hb d_Mo_step_18 (by decide) ?_
  refine lv_istore_n (lv' := [(1, .int (0 : Int32)), (0, .ref (ad 0))]) hx hb d_Mo_step_19 rfl hl (by decide) rfl (fun ls hl => ?_)
  exact w_Mo_step_20 o C0 q4 (0 : Int32) h H locs ls hw (lv_sub hl [1, 0] rfl)
def k_Mo_run_11 (q : z_Sg) : Option (Int32 × z_Sg) :=
  some ((0 : Int32), q)
def kb_Mo_run_15 (ih15 : Int32 × Int32 × z_Sg → Option (Int32 × z_Sg)) (x1 : Int32) (x2 : Int32) (q : z_Sg) : Option (Int32 × z_Sg) :=
  if x1 ≤ x2 then (some (x2, q)) else ((f_Mo_step q).bind (fun r4 => if r4.1 = (-1 : Int32) then (z_nm (x2 + (1 : Int32)) (fun n6 => ih15 (x1, n6, r4.2))) else (some (x2, r4.2))))
def k_Mo_run_15 (x1 : Int32) (x2 : Int32) (q : z_Sg) : Option (Int32 × z_Sg) := z_lo (fun ih15 a => kb_Mo_run_15 ih15 a.1 a.2.1 a.2.2) 2000 (x1, x2, q)
def f_Mo_run (x1 : Int32) (q : z_Sg) : Option (Int32 × z_Sg) :=
  if x1 < 0 then (k_Mo_run_11 q) else (if x1 ≤ (1000 : Int32) then (k_Mo_run_15 x1 (0 : Int32) q) else (k_Mo_run_11 q))
set_option maxHeartbeats 4000000 in
set_option maxRecDepth 100000 in
theorem w_Mo_run_11 {p : Program} {l : Launch} {e : Env} {s : State} {m : MethodId} {args : Array Value} {below : List Frame} {meth : Method} {c : Code} {D : va_G} {A : Nat → Prop} {ad : Nat → Nat} {ca : Nat → ClassId} (o : (Int32 × z_Sg)) (C0 : z_cx z_RMo b_Mo_run 3 (some .int) D (z_Mt ca) A p s m args meth c) (q : z_Sg) (h : k_Mo_run_11 q = some o) : ∀ (H : Heap) (locs : List Loc) (ls : Array Slot), z_wd D (z_M ad ca q) A s H locs → lv_has ls 3 [] → W p l e (z_rm 7 169) s m args below meth c H locs 0 0 (z_qi below D (z_Mt ca) (z_M ad ca o.2) A s args o.1) (F0 m 11 ls []) := by
  obtain ⟨hx, hb, hr, hlk, hml, hown, hts, hK, hA⟩ := id C0
  intro H locs ls hw hl
  refine lv_iconst (v := (0 : Int32)) hx hb d_Mo_run_11 (by decide) ?_
  have ho := Option.some.inj h
  subst ho
  exact z_rti C0 hw d_Mo_run_12
set_option maxHeartbeats 4000000 in
set_option maxRecDepth 100000 in
theorem wb_Mo_run_15 {p : Program} {l : Launch} {e : Env} {s : State} {m : MethodId} {args : Array Value} {below : List Frame} {meth : Method} {c : Code} {D : va_G} {A : Nat → Prop} {ad : Nat → Nat} {ca : Nat → ClassId} (o : (Int32 × z_Sg)) (C0 : z_cx z_RMo b_Mo_run 3 (some .int) D (z_Mt ca) A p s m args meth c) (q : z_Sg) (ih15 : Int32 × Int32 × z_Sg → Option (Int32 × z_Sg)) (hi15 : ∀ a : Int32 × Int32 × z_Sg, ih15 a = some o → ∀ (H : Heap) (locs : List Loc) (ls : Array Slot), z_wd D (z_M ad ca a.2.2) A s H locs → lv_has ls 3 [(0, .ref (ad 0)), (1, .int a.1), (2, .int a.2.1)] → W p l e (z_rm 7 169) s m args below meth c H locs 0 0 (z_qi below D (z_Mt ca) (z_M ad ca o.2) A s args o.1) (F0 m 15 ls [])) (x1 : Int32) (x2 : Int32) (h : kb_Mo_run_15 ih15 x1 x2 q = some o) : ∀ (H : Heap) (locs : List Loc) (ls : Array Slot), z_wd D (z_M ad ca q) A s H locs → lv_has ls 3 [(0, .ref (ad 0)), (1, .int x1), (2, .int x2)] → W p l e (z_rm 7 169) s m args below meth c H locs 0 0 (z_qi below D (z_Mt ca) (z_M ad ca o.2) A s args o.1) (F0 m 15 ls []) := by
  obtain ⟨hx, hb, hr, hlk, hml, hown, hts, hK, hA⟩ := id C0
  intro H locs ls hw hl
  refine lv_iload_n hx hb d_Mo_run_15 rfl (lv_at hl 2 rfl) ?_
  refine lv_iload_n hx hb d_Mo_run_16 rfl (lv_at hl 1 rfl) ?_
  refine lv_icmp_ge (tgt := 36) hx hb d_Mo_run_17 (by decide) (fun c3 => ?_) (fun c3 => ?_)
  · have h := ok_t h c3
    refine lv_iload_n hx hb d_Mo_run_36 rfl (lv_at hl 2 rfl) ?_
    have ho := Option.some.inj h
    subst ho
    exact z_rti C0 hw d_Mo_run_37
  · have h := ok_f h c3
    refine lv_aload_n hx hb d_Mo_run_20 rfl (lv_at hl 0 rfl) ?_
    obtain ⟨r4, er4, h⟩ := ok_b h
    refine z_vi (rest := []) C0 hw (c_Mo_step q r4 er4) mw_Mo_step ml_Mo_466 0 rfl ⟨Nat.le_of_ble_eq_true rfl, Nat.le_of_ble_eq_true rfl⟩ ⟨Nat.le_refl 0, Nat.le_refl 0⟩ rfl hl.1 rfl (Nat.le_of_ble_eq_true rfl) d_Mo_run_21 (fun H locs hw => ?_)
    refine lv_iconst (v := (-1 : Int32)) hx hb d_Mo_run_24 (by decide) ?_
    refine lv_icmp_eq (tgt := 30) hx hb d_Mo_run_25 (by decide) (fun c5 => ?_) (fun c5 => ?_)
    · have h := ok_t h c5
      obtain ⟨n6, en6, h⟩ := ok_n h
      refine lv_iinc (v := n6) (lv' := [(2, .int n6), (0, .ref (ad 0)), (1, .int x1)]) hx hb d_Mo_run_30 hl (k := 2) rfl (by rw [en6]; rfl) (by decide) rfl (fun ls hl => ?_)
      refine lv_goto (tgt := 15) hx hb d_Mo_run_33 (by decide) ?_
      exact hi15 (x1, n6, r4.2) h H locs ls hw (lv_sub hl [1, 2, 0] rfl)
    · have h := ok_f h c5
      refine lv_iload_n hx hb d_Mo_run_28 rfl (lv_at hl 2 rfl) ?_
      have ho := Option.some.inj h
      subst ho
      exact z_rti C0 hw d_Mo_run_29
theorem w_Mo_run_15 {p : Program} {l : Launch} {e : Env} {s : State} {m : MethodId} {args : Array Value} {below : List Frame} {meth : Method} {c : Code} {D : va_G} {A : Nat → Prop} {ad : Nat → Nat} {ca : Nat → ClassId} (o : (Int32 × z_Sg)) (C0 : z_cx z_RMo b_Mo_run 3 (some .int) D (z_Mt ca) A p s m args meth c) (q : z_Sg) (x1 : Int32) (x2 : Int32) (h : k_Mo_run_15 x1 x2 q = some o) : ∀ (H : Heap) (locs : List Loc) (ls : Array Slot), z_wd D (z_M ad ca q) A s H locs → lv_has ls 3 [(0, .ref (ad 0)), (1, .int x1), (2, .int x2)] → W p l e (z_rm 7 169) s m args below meth c H locs 0 0 (z_qi below D (z_Mt ca) (z_M ad ca o.2) A s args o.1) (F0 m 15 ls []) := by
  have key : ∀ (n : Nat) (a : Int32 × Int32 × z_Sg), z_lo (fun ih15 a => kb_Mo_run_15 ih15 a.1 a.2.1 a.2.2) n a = some o → ∀ (H : Heap) (locs : List Loc) (ls : Array Slot), z_wd D (z_M ad ca a.2.2) A s H locs → lv_has ls 3 [(0, .ref (ad 0)), (1, .int a.1), (2, .int a.2.1)] → W p l e (z_rm 7 169) s m args below meth c H locs 0 0 (z_qi below D (z_Mt ca) (z_M ad ca o.2) A s args o.1) (F0 m 15 ls []) := by
    intro n
    induction n with
    | zero => intro a h; cases h
    | succ n ih => exact fun a h => wb_Mo_run_15 o C0 a.2.2 (z_lo (fun ih15 a => kb_Mo_run_15 ih15 a.1 a.2.1 a.2.2) n) ih a.1 a.2.1 h
  exact key 2000 (x1, x2, q) h
set_option maxHeartbeats 4000000 in
set_option maxRecDepth 100000 in
theorem c_Mo_run {l : Launch} {D : va_G} {ad : Nat → Nat} {ca : Nat → ClassId} (x1 : Int32) (q : z_Sg) (o : (Int32 × z_Sg)) (h : f_Mo_run x1 q = some o) : z_ci l y_Mo_run b_Mo_run 3 (some .int) 7 169 D (z_Mt ca) (z_M ad ca q) (z_M ad ca o.2) [.ref (ad 0), .int x1] o.1 := by
  refine z_ci_of (own := z_RMo) (by decide) rfl ?_
  intro p e s m below meth c A C0 hw
  obtain ⟨hx, hb, hr, hlk, hml, hown, hts, hK, hA⟩ := id C0
  generalize hH : s.heap = H at hw ⊢
  generalize hlo : ([] : List Loc) = locs at hw ⊢
  refine z_entry (lv := [(0, .ref (ad 0)), (1, .int x1)]) (Nat.le_of_ble_eq_true rfl) rfl (fun ls hl => ?_)
  unfold f_Mo_run at h
  refine lv_iload_n hx hb d_Mo_run_0 rfl (lv_at hl 1 rfl) ?_
  refine lv_if_lt (tgt := 11) hx hb d_Mo_run_1 (by decide) (fun c1 => ?_) (fun c1 => ?_)
  · have h := ok_t h c1
    exact w_Mo_run_11 o C0 q h H locs ls hw (lv_sub hl [] rfl)
  · have h := ok_f h c1
    refine lv_iload_n hx hb d_Mo_run_4 rfl (lv_at hl 1 rfl) ?_
    refine lv_sipush (v := (1000 : Int32)) hx hb d_Mo_run_5 (by decide) ?_
    refine lv_icmp_le (tgt := 13) hx hb d_Mo_run_8 (by decide) (fun c2 => ?_) (fun c2 => ?_)
    · have h := ok_t h c2
      refine lv_iconst (v := (0 : Int32)) hx hb d_Mo_run_13 (by decide) ?_
      refine lv_istore_n (lv' := [(2, .int (0 : Int32)), (0, .ref (ad 0)), (1, .int x1)]) hx hb d_Mo_run_14 rfl hl (by decide) rfl (fun ls hl => ?_)
      exact w_Mo_run_15 o C0 q x1 (0 : Int32) h H locs ls hw (lv_sub hl [1, 2, 0] rfl)
    · have h := ok_f h c2
      exact w_Mo_run_11 o C0 q h H locs ls hw (lv_sub hl [] rfl)
def k_Mo_look_67 (t0 : Int64) (q : z_Sg) : Option (Int64 × z_Sg) :=
  some (t0, q)
def k_Mo_look_41 (t1 : Int64) (t2 : Int32) (q : z_Sg) : Option (Int64 × z_Sg) :=
  (f_Mo_find t1 t2 q).bind (fun r6 => if (0 : Int64) ≤ r6.1 then (k_Mo_look_67 r6.1 r6.2) else (k_Mo_look_67 ((-2 : Int64) - ((z_gI r6.2 1).toInt64)) r6.2))
def f_Mo_look (x1 : Int32) (x2 : Int32) (x3 : Int32) (q : z_Sg) : Option (Int64 × z_Sg) :=
  (f_Mo_join x1 x2 q).bind (fun r1 => (f_Mo_isWrong r1 q).bind (fun r2 => if r2 = 0 then (if x3 = (1 : Int32) then (k_Mo_look_41 r1 (1 : Int32) q) else (if x3 = (2 : Int32) then (k_Mo_look_41 r1 (2 : Int32) q) else (k_Mo_look_41 r1 (0 : Int32) q))) else (some ((-1 : Int64), q))))
set_option maxHeartbeats 4000000 in
set_option maxRecDepth 100000 in
theorem w_Mo_look_67 {p : Program} {l : Launch} {e : Env} {s : State} {m : MethodId} {args : Array Value} {below : List Frame} {meth : Method} {c : Code} {D : va_G} {A : Nat → Prop} {ad : Nat → Nat} {ca : Nat → ClassId} (o : (Int64 × z_Sg)) (C0 : z_cx z_RMo b_Mo_look 8 (some .long) D (z_Mt ca) A p s m args meth c) (q : z_Sg) (t0 : Int64) (h : k_Mo_look_67 t0 q = some o) : ∀ (H : Heap) (locs : List Loc) (ls : Array Slot), z_wd D (z_M ad ca q) A s H locs → lv_has ls 8 [] → W p l e (z_rm 3 81) s m args below meth c H locs 0 0 (z_ql below D (z_Mt ca) (z_M ad ca o.2) A s args o.1) (F0 m 67 ls [.long t0]) := by
  obtain ⟨hx, hb, hr, hlk, hml, hown, hts, hK, hA⟩ := id C0
  intro H locs ls hw hl
  have ho := Option.some.inj h
  subst ho
  exact z_rtl C0 hw d_Mo_look_67
set_option maxHeartbeats 4000000 in
set_option maxRecDepth 100000 in
theorem w_Mo_look_41 {p : Program} {l : Launch} {e : Env} {s : State} {m : MethodId} {args : Array Value} {below : List Frame} {meth : Method} {c : Code} {D : va_G} {A : Nat → Prop} {ad : Nat → Nat} {ca : Nat → ClassId} (o : (Int64 × z_Sg)) (C0 : z_cx z_RMo b_Mo_look 8 (some .long) D (z_Mt ca) A p s m args meth c) (q : z_Sg) (t1 : Int64) (t2 : Int32) (h : k_Mo_look_41 t1 t2 q = some o) : ∀ (H : Heap) (locs : List Loc) (ls : Array Slot), z_wd D (z_M ad ca q) A s H locs → lv_has ls 8 [(0, .ref (ad 0))] → W p l e (z_rm 3 81) s m args below meth c H locs 0 0 (z_ql below D (z_Mt ca) (z_M ad ca o.2) A s args o.1) (F0 m 41 ls [.int t2, .long t1, .ref (ad 0)]) := by
  obtain ⟨hx, hb, hr, hlk, hml, hown, hts, hK, hA⟩ := id C0
  intro H locs ls hw hl
  obtain ⟨r6, er6, h⟩ := ok_b h
  refine z_vl (rest := []) C0 hw (c_Mo_find t1 t2 q r6 er6) mw_Mo_find ml_Mo_85 0 rfl ⟨Nat.le_of_ble_eq_true rfl, Nat.le_of_ble_eq_true rfl⟩ ⟨Nat.le_refl 0, Nat.le_refl 0⟩ rfl hl.1 rfl (Nat.le_of_ble_eq_true rfl) d_Mo_look_41 (fun H locs hw => ?_)
  refine lv_lstore (lv' := [(6, .long r6.1), (0, .ref (ad 0))]) hx hb d_Mo_look_44 hl (by decide) rfl (fun ls hl => ?_)
  refine lv_lload hx hb d_Mo_look_46 (lv_at hl 0 rfl) ?_
  refine lv_lconst (v := (0 : Int64)) hx hb d_Mo_look_48 (by decide) ?_
  refine W.lcmp hx hb d_Mo_look_49 ?_
  refine lv_if_ge (tgt := 65) hx hb d_Mo_look_50 (by decide) (fun c7 => ?_) (fun c7 => ?_)
  · have h := ok_t h ((lg_cmp_ge _ _).mp c7)
    refine lv_lload hx hb d_Mo_look_65 (lv_at hl 0 rfl) ?_
    exact w_Mo_look_67 o C0 r6.2 r6.1 h H locs ls hw (lv_sub hl [] rfl)
  · have h := ok_f h (fun z => c7 ((lg_cmp_ge _ _).mpr z))
    refine lv_ldc2 (own := z_RMo) hx hb hown (hts _ kl_Mo_469) d_Mo_look_53 ?_
    refine lv_aload_n hx hb d_Mo_look_56 rfl (lv_at hl 1 rfl) ?_
    refine gfM_0_lookCode C0 hw fl_Mo_68 d_Mo_look_57 ?_
    refine lv_i2l hx hb d_Mo_look_60 rfl ?_
    refine lv_lsub hx hb d_Mo_look_61 ?_
    refine lv_goto (tgt := 67) hx hb d_Mo_look_62 (by decide) ?_
    exact w_Mo_look_67 o C0 r6.2 ((-2 : Int64) - ((z_gI r6.2 1).toInt64)) h H locs ls hw (lv_sub hl [] rfl)
set_option maxHeartbeats 4000000 in
set_option maxRecDepth 100000 in
theorem c_Mo_look {l : Launch} {D : va_G} {ad : Nat → Nat} {ca : Nat → ClassId} (x1 : Int32) (x2 : Int32) (x3 : Int32) (q : z_Sg) (o : (Int64 × z_Sg)) (h : f_Mo_look x1 x2 x3 q = some o) : z_cl l y_Mo_look b_Mo_look 8 (some .long) 3 81 D (z_Mt ca) (z_M ad ca q) (z_M ad ca o.2) [.ref (ad 0), .int x1, .int x2, .int x3] o.1 := by
  refine z_cl_of (own := z_RMo) (by decide) rfl ?_
  intro p e s m below meth c A C0 hw
  obtain ⟨hx, hb, hr, hlk, hml, hown, hts, hK, hA⟩ := id C0
  generalize hH : s.heap = H at hw ⊢
  generalize hlo : ([] : List Loc) = locs at hw ⊢
  refine z_entry (lv := [(0, .ref (ad 0)), (1, .int x1), (2, .int x2), (3, .int x3)]) (Nat.le_of_ble_eq_true rfl) rfl (fun ls hl => ?_)
  unfold f_Mo_look at h
  refine lv_iload_n hx hb d_Mo_look_0 rfl (lv_at hl 1 rfl) ?_
  refine lv_iload_n hx hb d_Mo_look_1 rfl (lv_at hl 2 rfl) ?_
  obtain ⟨r1, er1, h⟩ := ok_b h
  refine z_sl (rest := []) C0 hw (c_Mo_join x1 x2 q r1 er1) mw_Mo_join ml_Mo_461 ⟨Nat.le_of_ble_eq_true rfl, Nat.le_of_ble_eq_true rfl⟩ ⟨Nat.le_refl 0, Nat.le_refl 0⟩ rfl hl.1 rfl (Nat.le_of_ble_eq_true rfl) d_Mo_look_2 (fun H locs hw => ?_)
  refine lv_lstore (lv' := [(4, .long r1), (0, .ref (ad 0)), (1, .int x1), (2, .int x2), (3, .int x3)]) hx hb d_Mo_look_5 hl (by decide) rfl (fun ls hl => ?_)
  refine lv_lload hx hb d_Mo_look_7 (lv_at hl 0 rfl) ?_
  obtain ⟨r2, er2, h⟩ := ok_b h
  refine z_si (rest := []) C0 hw (c_Mo_isWrong r1 q r2 er2) mw_Mo_isWrong ml_Mo_77 ⟨Nat.le_of_ble_eq_true rfl, Nat.le_of_ble_eq_true rfl⟩ ⟨Nat.le_refl 0, Nat.le_refl 0⟩ rfl hl.1 rfl (Nat.le_of_ble_eq_true rfl) d_Mo_look_9 (fun H locs hw => ?_)
  refine lv_if_eq (tgt := 19) hx hb d_Mo_look_12 (by decide) (fun c3 => ?_) (fun c3 => ?_)
  · have h := ok_t h c3
    refine lv_aload_n hx hb d_Mo_look_19 rfl (lv_at hl 1 rfl) ?_
    refine lv_lload hx hb d_Mo_look_20 (lv_at hl 0 rfl) ?_
    refine lv_iload_n hx hb d_Mo_look_22 rfl (lv_at hl 4 rfl) ?_
    refine lv_iconst (v := (1 : Int32)) hx hb d_Mo_look_23 (by decide) ?_
    refine lv_icmp_ne (tgt := 31) hx hb d_Mo_look_24 (by decide) (fun c4 => ?_) (fun c4 => ?_)
    · have h := ok_f h c4
      refine lv_iload_n hx hb d_Mo_look_31 rfl (lv_at hl 4 rfl) ?_
      refine lv_iconst (v := (2 : Int32)) hx hb d_Mo_look_32 (by decide) ?_
      refine lv_icmp_ne (tgt := 40) hx hb d_Mo_look_33 (by decide) (fun c5 => ?_) (fun c5 => ?_)
      · have h := ok_f h c5
        refine lv_iconst (v := (0 : Int32)) hx hb d_Mo_look_40 (by decide) ?_
        exact w_Mo_look_41 o C0 q r1 (0 : Int32) h H locs ls hw (lv_sub hl [1] rfl)
      · have h := ok_t h c5
        refine lv_iconst (v := (2 : Int32)) hx hb d_Mo_look_36 (by decide) ?_
        refine lv_goto (tgt := 41) hx hb d_Mo_look_37 (by decide) ?_
        exact w_Mo_look_41 o C0 q r1 (2 : Int32) h H locs ls hw (lv_sub hl [1] rfl)
    · have h := ok_t h c4
      refine lv_iconst (v := (1 : Int32)) hx hb d_Mo_look_27 (by decide) ?_
      refine lv_goto (tgt := 41) hx hb d_Mo_look_28 (by decide) ?_
      exact w_Mo_look_41 o C0 q r1 (1 : Int32) h H locs ls hw (lv_sub hl [1] rfl)
  · have h := ok_f h c3
    refine lv_ldc2 (own := z_RMo) hx hb hown (hts _ kl_Mo_71) d_Mo_look_15 ?_
    have ho := Option.some.inj h
    subst ho
    exact z_rtl C0 hw d_Mo_look_18
