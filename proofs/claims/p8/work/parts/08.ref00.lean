def k_Mo_store_17 (q : z_Sg) : Option (Int32 × z_Sg) :=
  some ((0 : Int32), q)
def k_Mo_store_48 (ih22 : Int32 × Int32 × Int32 × Int32 × z_Sg → Option (Int32 × z_Sg)) (x1 : Int32) (x2 : Int32) (x3 : Int32) (x4 : Int32) (t1 : Int32) (t2 : Int32) (q : z_Sg) : Option (Int32 × z_Sg) :=
  if z_bad t1 32768 then none else (z_nm (z_sN q 0 t1.toNatClampNeg (vp_nar .byte ((t2 >>> (((8 : Int32) * (x4 - x4 / (4 : Int32) * (4 : Int32))) &&& 31)).toInt8.toInt32))) (fun q6 => z_nm (x4 + (1 : Int32)) (fun n7 => ih22 (x1, x2, x3, n7, q6))))
def kb_Mo_store_22 (ih22 : Int32 × Int32 × Int32 × Int32 × z_Sg → Option (Int32 × z_Sg)) (x1 : Int32) (x2 : Int32) (x3 : Int32) (x4 : Int32) (q : z_Sg) : Option (Int32 × z_Sg) :=
  if (8 : Int32) ≤ x4 then (some ((1 : Int32), q)) else (if (4 : Int32) ≤ x4 then (k_Mo_store_48 ih22 x1 x2 x3 x4 (x1 + x4) x3 q) else (k_Mo_store_48 ih22 x1 x2 x3 x4 (x1 + x4) x2 q))
def k_Mo_store_22 (x1 : Int32) (x2 : Int32) (x3 : Int32) (x4 : Int32) (q : z_Sg) : Option (Int32 × z_Sg) := z_lo (fun ih22 a => kb_Mo_store_22 ih22 a.1 a.2.1 a.2.2.1 a.2.2.2.1 a.2.2.2.2) 2000 (x1, x2, x3, x4, q)
def f_Mo_store (x1 : Int32) (x2 : Int32) (x3 : Int32) (q : z_Sg) : Option (Int32 × z_Sg) :=
  if x1 < 0 then (k_Mo_store_17 q) else (if ((x1.toInt64) + (8 : Int64)) ≤ (32768 : Int64) then (k_Mo_store_22 x1 x2 x3 (0 : Int32) q) else (k_Mo_store_17 q))
set_option maxHeartbeats 4000000 in
set_option maxRecDepth 100000 in
theorem w_Mo_store_17 {p : Program} {l : Launch} {e : Env} {s : State} {m : MethodId} {args : Array Value} {below : List Frame} {meth : Method} {c : Code} {D : va_G} {A : Nat → Prop} {ad : Nat → Nat} {ca : Nat → ClassId} (o : (Int32 × z_Sg)) (C0 : z_cx z_RMo b_Mo_store 5 (some .boolean) D (z_Mt ca) A p s m args meth c) (q : z_Sg) (h : k_Mo_store_17 q = some o) : ∀ (H : Heap) (locs : List Loc) (ls : Array Slot), z_wd D (z_M ad ca q) A s H locs → lv_has ls 5 [] → W p l e (z_rm 0 0) s m args below meth c H locs 0 0 (z_qi below D (z_Mt ca) (z_M ad ca o.2) A s args o.1) (F0 m 17 ls []) := by
  obtain ⟨hx, hb, hr, hlk, hml, hown, hts, hK, hA⟩ := id C0
  intro H locs ls hw hl
  refine lv_iconst (v := (0 : Int32)) hx hb d_Mo_store_17 (by decide) ?_
  have ho := Option.some.inj h
  subst ho
  exact z_rtz C0 hw (z_bo_n (Or.inl rfl)) d_Mo_store_18
set_option maxHeartbeats 4000000 in
set_option maxRecDepth 100000 in
theorem w_Mo_store_48 {p : Program} {l : Launch} {e : Env} {s : State} {m : MethodId} {args : Array Value} {below : List Frame} {meth : Method} {c : Code} {D : va_G} {A : Nat → Prop} {ad : Nat → Nat} {ca : Nat → ClassId} (o : (Int32 × z_Sg)) (C0 : z_cx z_RMo b_Mo_store 5 (some .boolean) D (z_Mt ca) A p s m args meth c) (q : z_Sg) (ih22 : Int32 × Int32 × Int32 × Int32 × z_Sg → Option (Int32 × z_Sg)) (hi22 : ∀ a : Int32 × Int32 × Int32 × Int32 × z_Sg, ih22 a = some o → ∀ (H : Heap) (locs : List Loc) (ls : Array Slot), z_wd D (z_M ad ca a.2.2.2.2) A s H locs → lv_has ls 5 [(0, .ref (ad 0)), (1, .int a.1), (2, .int a.2.1), (3, .int a.2.2.1), (4, .int a.2.2.2.1)] → W p l e (z_rm 0 0) s m args below meth c H locs 0 0 (z_qi below D (z_Mt ca) (z_M ad ca o.2) A s args o.1) (F0 m 22 ls [])) (x1 : Int32) (x2 : Int32) (x3 : Int32) (x4 : Int32) (t1 : Int32) (t2 : Int32) (h : k_Mo_store_48 ih22 x1 x2 x3 x4 t1 t2 q = some o) : ∀ (H : Heap) (locs : List Loc) (ls : Array Slot), z_wd D (z_M ad ca q) A s H locs → lv_has ls 5 [(0, .ref (ad 0)), (1, .int x1), (2, .int x2), (3, .int x3), (4, .int x4)] → W p l e (z_rm 0 0) s m args below meth c H locs 0 0 (z_qi below D (z_Mt ca) (z_M ad ca o.2) A s args o.1) (F0 m 48 ls [.int t2, .int t1, .ref (ad 1)]) := by
  obtain ⟨hx, hb, hr, hlk, hml, hown, hts, hK, hA⟩ := id C0
  intro H locs ls hw hl
  refine lv_bipush (v := (8 : Int32)) hx hb d_Mo_store_48 (by decide) ?_
  refine lv_iload hx hb d_Mo_store_50 (lv_at hl 4 rfl) ?_
  refine lv_iconst (v := (4 : Int32)) hx hb d_Mo_store_52 (by decide) ?_
  refine lv_irem hx hb d_Mo_store_53 (by decide) ?_
  refine lv_imul hx hb d_Mo_store_54 ?_
  refine lv_ishr hx hb d_Mo_store_55 ?_
  refine lv_i2b hx hb d_Mo_store_56 rfl ?_
  obtain ⟨b5, h⟩ := ok_g h
  refine asM_1 C0 hw b5 d_Mo_store_57 (fun H locs hw => ?_)
  obtain ⟨q6, eq6, h⟩ := ok_n h
  rw [← eq6] at hw
  obtain ⟨n7, en7, h⟩ := ok_n h
  refine lv_iinc (v := n7) (lv' := [(4, .int n7), (0, .ref (ad 0)), (1, .int x1), (2, .int x2), (3, .int x3)]) hx hb d_Mo_store_58 hl (k := 4) rfl (by rw [en7]; rfl) (by decide) rfl (fun ls hl => ?_)
  refine lv_goto (tgt := 22) hx hb d_Mo_store_61 (by decide) ?_
  exact hi22 (x1, x2, x3, n7, q6) h H locs ls hw (lv_sub hl [1, 2, 3, 4, 0] rfl)
set_option maxHeartbeats 4000000 in
set_option maxRecDepth 100000 in
theorem wb_Mo_store_22 {p : Program} {l : Launch} {e : Env} {s : State} {m : MethodId} {args : Array Value} {below : List Frame} {meth : Method} {c : Code} {D : va_G} {A : Nat → Prop} {ad : Nat → Nat} {ca : Nat → ClassId} (o : (Int32 × z_Sg)) (C0 : z_cx z_RMo b_Mo_store 5 (some .boolean) D (z_Mt ca) A p s m args meth c) (q : z_Sg) (ih22 : Int32 × Int32 × Int32 × Int32 × z_Sg → Option (Int32 × z_Sg)) (hi22 : ∀ a : Int32 × Int32 × Int32 × Int32 × z_Sg, ih22 a = some o → ∀ (H : Heap) (locs : List Loc) (ls : Array Slot), z_wd D (z_M ad ca a.2.2.2.2) A s H locs → lv_has ls 5 [(0, .ref (ad 0)), (1, .int a.1), (2, .int a.2.1), (3, .int a.2.2.1), (4, .int a.2.2.2.1)] → W p l e (z_rm 0 0) s m args below meth c H locs 0 0 (z_qi below D (z_Mt ca) (z_M ad ca o.2) A s args o.1) (F0 m 22 ls [])) (x1 : Int32) (x2 : Int32) (x3 : Int32) (x4 : Int32) (h : kb_Mo_store_22 ih22 x1 x2 x3 x4 q = some o) : ∀ (H : Heap) (locs : List Loc) (ls : Array Slot), z_wd D (z_M ad ca q) A s H locs → lv_has ls 5 [(0, .ref (ad 0)), (1, .int x1), (2, .int x2), (3, .int x3), (4, .int x4)] → W p l e (z_rm 0 0) s m args below meth c H locs 0 0 (z_qi below D (z_Mt ca) (z_M ad ca o.2) A s args o.1) (F0 m 22 ls []) := by
  obtain ⟨hx, hb, hr, hlk, hml, hown, hts, hK, hA⟩ := id C0
  intro H locs ls hw hl
  refine lv_iload hx hb d_Mo_store_22 (lv_at hl 4 rfl) ?_
  refine lv_bipush (v := (8 : Int32)) hx hb d_Mo_store_24 (by decide) ?_
  refine lv_icmp_ge (tgt := 64) hx hb d_Mo_store_26 (by decide) (fun c3 => ?_) (fun c3 => ?_)
  · have h := ok_t h c3
    refine lv_iconst (v := (1 : Int32)) hx hb d_Mo_store_64 (by decide) ?_
    have ho := Option.some.inj h
    subst ho
    exact z_rtz C0 hw (z_bo_n (Or.inr rfl)) d_Mo_store_65
  · have h := ok_f h c3
    refine lv_aload_n hx hb d_Mo_store_29 rfl (lv_at hl 0 rfl) ?_
    refine gfM_0_memory C0 hw fl_Mo_8 d_Mo_store_30 ?_
    refine lv_iload_n hx hb d_Mo_store_33 rfl (lv_at hl 1 rfl) ?_
    refine lv_iload hx hb d_Mo_store_34 (lv_at hl 4 rfl) ?_
    refine lv_iadd hx hb d_Mo_store_36 ?_
    refine lv_iload hx hb d_Mo_store_37 (lv_at hl 4 rfl) ?_
    refine lv_iconst (v := (4 : Int32)) hx hb d_Mo_store_39 (by decide) ?_
    refine lv_icmp_ge (tgt := 47) hx hb d_Mo_store_40 (by decide) (fun c4 => ?_) (fun c4 => ?_)
    · have h := ok_t h c4
      refine lv_iload_n hx hb d_Mo_store_47 rfl (lv_at hl 3 rfl) ?_
      exact w_Mo_store_48 o C0 q ih22 hi22 x1 x2 x3 x4 (x1 + x4) x3 h H locs ls hw (lv_sub hl [0, 1, 2, 3, 4] rfl)
    · have h := ok_f h c4
      refine lv_iload_n hx hb d_Mo_store_43 rfl (lv_at hl 2 rfl) ?_
      refine lv_goto (tgt := 48) hx hb d_Mo_store_44 (by decide) ?_
      exact w_Mo_store_48 o C0 q ih22 hi22 x1 x2 x3 x4 (x1 + x4) x2 h H locs ls hw (lv_sub hl [0, 1, 2, 3, 4] rfl)
theorem w_Mo_store_22 {p : Program} {l : Launch} {e : Env} {s : State} {m : MethodId} {args : Array Value} {below : List Frame} {meth : Method} {c : Code} {D : va_G} {A : Nat → Prop} {ad : Nat → Nat} {ca : Nat → ClassId} (o : (Int32 × z_Sg)) (C0 : z_cx z_RMo b_Mo_store 5 (some .boolean) D (z_Mt ca) A p s m args meth c) (q : z_Sg) (x1 : Int32) (x2 : Int32) (x3 : Int32) (x4 : Int32) (h : k_Mo_store_22 x1 x2 x3 x4 q = some o) : ∀ (H : Heap) (locs : List Loc) (ls : Array Slot), z_wd D (z_M ad ca q) A s H locs → lv_has ls 5 [(0, .ref (ad 0)), (1, .int x1), (2, .int x2), (3, .int x3), (4, .int x4)] → W p l e (z_rm 0 0) s m args below meth c H locs 0 0 (z_qi below D (z_Mt ca) (z_M ad ca o.2) A s args o.1) (F0 m 22 ls []) := by
  have key : ∀ (n : Nat) (a : Int32 × Int32 × Int32 × Int32 × z_Sg), z_lo (fun ih22 a => kb_Mo_store_22 ih22 a.1 a.2.1 a.2.2.1 a.2.2.2.1 a.2.2.2.2) n a = some o → ∀ (H : Heap) (locs : List Loc) (ls : Array Slot), z_wd D (z_M ad ca a.2.2.2.2) A s H locs → lv_has ls 5 [(0, .ref (ad 0)), (1, .int a.1), (2, .int a.2.1), (3, .int a.2.2.1), (4, .int a.2.2.2.1)] → W p l e (z_rm 0 0) s m args below meth c H locs 0 0 (z_qi below D (z_Mt ca) (z_M ad ca o.2) A s args o.1) (F0 m 22 ls []) := by
    intro n
    induction n with
    | zero => intro a h; cases h
    | succ n ih => exact fun a h => wb_Mo_store_22 o C0 a.2.2.2.2 (z_lo (fun ih22 a => kb_Mo_store_22 ih22 a.1 a.2.1 a.2.2.1 a.2.2.2.1 a.2.2.2.2) n) ih a.1 a.2.1 a.2.2.1 a.2.2.2.1 h
  exact key 2000 (x1, x2, x3, x4, q) h
set_option maxHeartbeats 4000000 in
set_option maxRecDepth 100000 in
theorem c_Mo_store {l : Launch} {D : va_G} {ad : Nat → Nat} {ca : Nat → ClassId} (x1 : Int32) (x2 : Int32) (x3 : Int32) (q : z_Sg) (o : (Int32 × z_Sg)) (h : f_Mo_store x1 x2 x3 q = some o) : z_ci l y_Mo_store b_Mo_store 5 (some .boolean) 0 0 D (z_Mt ca) (z_M ad ca q) (z_M ad ca o.2) [.ref (ad 0), .int x1, .int x2, .int x3] o.1 := by
  refine z_ci_of (own := z_RMo) (by decide) rfl ?_
  intro p e s m below meth c A C0 hw
  obtain ⟨hx, hb, hr, hlk, hml, hown, hts, hK, hA⟩ := id C0
  generalize hH : s.heap = H at hw ⊢
  generalize hlo : ([] : List Loc) = locs at hw ⊢
  refine z_entry (lv := [(0, .ref (ad 0)), (1, .int x1), (2, .int x2), (3, .int x3)]) (Nat.le_of_ble_eq_true rfl) rfl (fun ls hl => ?_)
  unfold f_Mo_store at h
  refine lv_iload_n hx hb d_Mo_store_0 rfl (lv_at hl 1 rfl) ?_
  refine lv_if_lt (tgt := 17) hx hb d_Mo_store_1 (by decide) (fun c1 => ?_) (fun c1 => ?_)
  · have h := ok_t h c1
    exact w_Mo_store_17 o C0 q h H locs ls hw (lv_sub hl [] rfl)
  · have h := ok_f h c1
    refine lv_iload_n hx hb d_Mo_store_4 rfl (lv_at hl 1 rfl) ?_
    refine lv_i2l hx hb d_Mo_store_5 rfl ?_
    refine lv_ldc2 (own := z_RMo) hx hb hown (hts _ kl_Mo_60) d_Mo_store_6 ?_
    refine lv_ladd hx hb d_Mo_store_9 ?_
    refine lv_ldc2 (own := z_RMo) hx hb hown (hts _ kl_Mo_42) d_Mo_store_10 ?_
    refine W.lcmp hx hb d_Mo_store_13 ?_
    refine lv_if_le (tgt := 19) hx hb d_Mo_store_14 (by decide) (fun c2 => ?_) (fun c2 => ?_)
    · have h := ok_t h ((lg_cmp_le _ _).mp c2)
      refine lv_iconst (v := (0 : Int32)) hx hb d_Mo_store_19 (by decide) ?_
      refine lv_istore (lv' := [(4, .int (0 : Int32)), (0, .ref (ad 0)), (1, .int x1), (2, .int x2), (3, .int x3)]) hx hb d_Mo_store_20 hl (by decide) rfl (fun ls hl => ?_)
      exact w_Mo_store_22 o C0 q x1 x2 x3 (0 : Int32) h H locs ls hw (lv_sub hl [1, 2, 3, 4, 0] rfl)
    · have h := ok_f h (fun z => c2 ((lg_cmp_le _ _).mpr z))
      exact w_Mo_store_17 o C0 q h H locs ls hw (lv_sub hl [] rfl)
def k_Mo_byteAt_29 (t0 : Int32) (q : z_Sg) : Option Int32 :=
  some t0
def k_Mo_byteAt_14 (q : z_Sg) : Option Int32 :=
  k_Mo_byteAt_29 (0 : Int32) q
def f_Mo_byteAt (x1 : Int64) (q : z_Sg) : Option Int32 :=
  if x1 < (0 : Int64) then (k_Mo_byteAt_14 q) else (if x1 < (32768 : Int64) then (if z_bad (x1.toInt32) 32768 then none else (k_Mo_byteAt_29 ((z_gN q 0 (x1.toInt32).toNatClampNeg) &&& (255 : Int32)) q)) else (k_Mo_byteAt_14 q))
set_option maxHeartbeats 4000000 in
set_option maxRecDepth 100000 in
theorem w_Mo_byteAt_29 {p : Program} {l : Launch} {e : Env} {s : State} {m : MethodId} {args : Array Value} {below : List Frame} {meth : Method} {c : Code} {D : va_G} {A : Nat → Prop} {ad : Nat → Nat} {ca : Nat → ClassId} (o : Int32) (C0 : z_cx z_RMo b_Mo_byteAt 3 (some .int) D (z_Mt ca) A p s m args meth c) (q : z_Sg) (t0 : Int32) (h : k_Mo_byteAt_29 t0 q = some o) : ∀ (H : Heap) (locs : List Loc) (ls : Array Slot), z_wd D (z_M ad ca q) A s H locs → lv_has ls 3 [] → W p l e (z_rm 0 0) s m args below meth c H locs 0 0 (z_qi below D (z_Mt ca) (z_M ad ca q) A s args o) (F0 m 29 ls [.int t0]) := by
  obtain ⟨hx, hb, hr, hlk, hml, hown, hts, hK, hA⟩ := id C0
  intro H locs ls hw hl
  have ho := Option.some.inj h
  subst ho
  exact z_rti C0 hw d_Mo_byteAt_29
set_option maxHeartbeats 4000000 in
set_option maxRecDepth 100000 in
theorem w_Mo_byteAt_14 {p : Program} {l : Launch} {e : Env} {s : State} {m : MethodId} {args : Array Value} {below : List Frame} {meth : Method} {c : Code} {D : va_G} {A : Nat → Prop} {ad : Nat → Nat} {ca : Nat → ClassId} (o : Int32) (C0 : z_cx z_RMo b_Mo_byteAt 3 (some .int) D (z_Mt ca) A p s m args meth c) (q : z_Sg) (h : k_Mo_byteAt_14 q = some o) : ∀ (H : Heap) (locs : List Loc) (ls : Array Slot), z_wd D (z_M ad ca q) A s H locs → lv_has ls 3 [] → W p l e (z_rm 0 0) s m args below meth c H locs 0 0 (z_qi below D (z_Mt ca) (z_M ad ca q) A s args o) (F0 m 14 ls []) := by
  obtain ⟨hx, hb, hr, hlk, hml, hown, hts, hK, hA⟩ := id C0
  intro H locs ls hw hl
  refine lv_iconst (v := (0 : Int32)) hx hb d_Mo_byteAt_14 (by decide) ?_
  refine lv_goto (tgt := 29) hx hb d_Mo_byteAt_15 (by decide) ?_
  exact w_Mo_byteAt_29 o C0 q (0 : Int32) h H locs ls hw (lv_sub hl [] rfl)
set_option maxHeartbeats 4000000 in
set_option maxRecDepth 100000 in
theorem c_Mo_byteAt {l : Launch} {D : va_G} {ad : Nat → Nat} {ca : Nat → ClassId} (x1 : Int64) (q : z_Sg) (o : Int32) (h : f_Mo_byteAt x1 q = some o) : z_ci l y_Mo_byteAt b_Mo_byteAt 3 (some .int) 0 0 D (z_Mt ca) (z_M ad ca q) (z_M ad ca q) [.ref (ad 0), .long x1] o := by
  refine z_ci_of (own := z_RMo) (by decide) rfl ?_
  intro p e s m below meth c A C0 hw
  obtain ⟨hx, hb, hr, hlk, hml, hown, hts, hK, hA⟩ := id C0
  generalize hH : s.heap = H at hw ⊢
  generalize hlo : ([] : List Loc) = locs at hw ⊢
  refine z_entry (lv := [(0, .ref (ad 0)), (1, .long x1)]) (Nat.le_of_ble_eq_true rfl) rfl (fun ls hl => ?_)
  unfold f_Mo_byteAt at h
  refine lv_lload_n hx hb d_Mo_byteAt_0 rfl (lv_at hl 1 rfl) ?_
  refine lv_lconst (v := (0 : Int64)) hx hb d_Mo_byteAt_1 (by decide) ?_
  refine W.lcmp hx hb d_Mo_byteAt_2 ?_
  refine lv_if_lt (tgt := 14) hx hb d_Mo_byteAt_3 (by decide) (fun c1 => ?_) (fun c1 => ?_)
  · have h := ok_t h ((lg_cmp_lt _ _).mp c1)
    exact w_Mo_byteAt_14 o C0 q h H locs ls hw (lv_sub hl [] rfl)
  · have h := ok_f h (fun z => c1 ((lg_cmp_lt _ _).mpr z))
    refine lv_lload_n hx hb d_Mo_byteAt_6 rfl (lv_at hl 1 rfl) ?_
    refine lv_ldc2 (own := z_RMo) hx hb hown (hts _ kl_Mo_42) d_Mo_byteAt_7 ?_
    refine W.lcmp hx hb d_Mo_byteAt_10 ?_
    refine lv_if_lt (tgt := 18) hx hb d_Mo_byteAt_11 (by decide) (fun c2 => ?_) (fun c2 => ?_)
    · have h := ok_t h ((lg_cmp_lt _ _).mp c2)
      refine lv_aload_n hx hb d_Mo_byteAt_18 rfl (lv_at hl 0 rfl) ?_
      refine gfM_0_memory C0 hw fl_Mo_8 d_Mo_byteAt_19 ?_
      refine lv_lload_n hx hb d_Mo_byteAt_22 rfl (lv_at hl 1 rfl) ?_
      refine lv_l2i hx hb d_Mo_byteAt_23 rfl ?_
      obtain ⟨b3, h⟩ := ok_g h
      refine alM_1 C0 hw b3 d_Mo_byteAt_24 ?_
      refine lv_sipush (v := (255 : Int32)) hx hb d_Mo_byteAt_25 (by decide) ?_
      refine lv_iand hx hb d_Mo_byteAt_28 ?_
      exact w_Mo_byteAt_29 o C0 q ((z_gN q 0 (x1.toInt32).toNatClampNeg) &&& (255 : Int32)) h H locs ls hw (lv_sub hl [] rfl)
    · have h := ok_f h (fun z => c2 ((lg_cmp_lt _ _).mpr z))
      exact w_Mo_byteAt_14 o C0 q h H locs ls hw (lv_sub hl [] rfl)
def kb_Mo_eight_5 (ih5 : Int64 × Int64 × Int32 → Option Int64) (x1 : Int64) (x3 : Int64) (x5 : Int32) (q : z_Sg) : Option Int64 :=
  if (8 : Int32) ≤ x5 then (some x3) else ((f_Mo_byteAt (x1 + (x5.toInt64)) q).bind (fun r2 => z_nm ((x3 ||| (z_lshl (r2.toInt64) ((8 : Int32) * x5)))) (fun n3 => z_nm (x5 + (1 : Int32)) (fun n4 => ih5 (x1, n3, n4)))))
def k_Mo_eight_5 (x1 : Int64) (x3 : Int64) (x5 : Int32) (q : z_Sg) : Option Int64 := z_lo (fun ih5 a => kb_Mo_eight_5 ih5 a.1 a.2.1 a.2.2 q) 2000 (x1, x3, x5)
def f_Mo_eight (x1 : Int64) (q : z_Sg) : Option Int64 :=
  k_Mo_eight_5 x1 (0 : Int64) (0 : Int32) q
set_option maxHeartbeats 4000000 in
set_option maxRecDepth 100000 in
theorem wb_Mo_eight_5 {p : Program} {l : Launch} {e : Env} {s : State} {m : MethodId} {args : Array Value} {below : List Frame} {meth : Method} {c : Code} {D : va_G} {A : Nat → Prop} {ad : Nat → Nat} {ca : Nat → ClassId} (o : Int64) (C0 : z_cx z_RMo b_Mo_eight 6 (some .long) D (z_Mt ca) A p s m args meth c) (q : z_Sg) (ih5 : Int64 × Int64 × Int32 → Option Int64) (hi5 : ∀ a : Int64 × Int64 × Int32, ih5 a = some o → ∀ (H : Heap) (locs : List Loc) (ls : Array Slot), z_wd D (z_M ad ca q) A s H locs → lv_has ls 6 [(0, .ref (ad 0)), (1, .long a.1), (3, .long a.2.1), (5, .int a.2.2)] → W p l e (z_rm 1 22) s m args below meth c H locs 0 0 (z_ql below D (z_Mt ca) (z_M ad ca q) A s args o) (F0 m 5 ls [])) (x1 : Int64) (x3 : Int64) (x5 : Int32) (h : kb_Mo_eight_5 ih5 x1 x3 x5 q = some o) : ∀ (H : Heap) (locs : List Loc) (ls : Array Slot), z_wd D (z_M ad ca q) A s H locs → lv_has ls 6 [(0, .ref (ad 0)), (1, .long x1), (3, .long x3), (5, .int x5)] → W p l e (z_rm 1 22) s m args below meth c H locs 0 0 (z_ql below D (z_Mt ca) (z_M ad ca q) A s args o) (F0 m 5 ls []) := by
  obtain ⟨hx, hb, hr, hlk, hml, hown, hts, hK, hA⟩ := id C0
  intro H locs ls hw hl
  refine lv_iload hx hb d_Mo_eight_5 (lv_at hl 3 rfl) ?_
  refine lv_bipush (v := (8 : Int32)) hx hb d_Mo_eight_7 (by decide) ?_
  refine lv_icmp_ge (tgt := 37) hx hb d_Mo_eight_9 (by decide) (fun c1 => ?_) (fun c1 => ?_)
  · have h := ok_t h c1
    refine lv_lload_n hx hb d_Mo_eight_37 rfl (lv_at hl 2 rfl) ?_
    have ho := Option.some.inj h
    subst ho
    exact z_rtl C0 hw d_Mo_eight_38
  · have h := ok_f h c1
    refine lv_lload_n hx hb d_Mo_eight_12 rfl (lv_at hl 2 rfl) ?_
    refine lv_aload_n hx hb d_Mo_eight_13 rfl (lv_at hl 0 rfl) ?_
    refine lv_lload_n hx hb d_Mo_eight_14 rfl (lv_at hl 1 rfl) ?_
    refine lv_iload hx hb d_Mo_eight_15 (lv_at hl 3 rfl) ?_
    refine lv_i2l hx hb d_Mo_eight_17 rfl ?_
    refine lv_ladd hx hb d_Mo_eight_18 ?_
    obtain ⟨r2, er2, h⟩ := ok_b h
    refine z_vi (rest := [.long x3]) C0 hw (c_Mo_byteAt (x1 + (x5.toInt64)) q r2 er2) mw_Mo_byteAt ml_Mo_44 0 rfl ⟨Nat.le_of_ble_eq_true rfl, Nat.le_of_ble_eq_true rfl⟩ ⟨Nat.le_refl 0, Nat.le_refl 0⟩ rfl hl.1 rfl (Nat.le_of_ble_eq_true rfl) d_Mo_eight_19 (fun H locs hw => ?_)
    refine lv_i2l hx hb d_Mo_eight_22 rfl ?_
    refine lv_bipush (v := (8 : Int32)) hx hb d_Mo_eight_23 (by decide) ?_
    refine lv_iload hx hb d_Mo_eight_25 (lv_at hl 3 rfl) ?_
    refine lv_imul hx hb d_Mo_eight_27 ?_
    refine lv_lshl (v := (z_lshl (r2.toInt64) ((8 : Int32) * x5))) hx hb d_Mo_eight_28 rfl ?_
    refine lv_lor hx hb d_Mo_eight_29 ?_
    obtain ⟨n3, en3, h⟩ := ok_n h
    refine z_tl en3 ?_
    refine lv_lstore_n (lv' := [(3, .long n3), (0, .ref (ad 0)), (1, .long x1), (5, .int x5)]) hx hb d_Mo_eight_30 rfl hl (by decide) rfl (fun ls hl => ?_)
    obtain ⟨n4, en4, h⟩ := ok_n h
    refine lv_iinc (v := n4) (lv' := [(5, .int n4), (3, .long n3), (0, .ref (ad 0)), (1, .long x1)]) hx hb d_Mo_eight_31 hl (k := 3) rfl (by rw [en4]; rfl) (by decide) rfl (fun ls hl => ?_)
    refine lv_goto (tgt := 5) hx hb d_Mo_eight_34 (by decide) ?_
    exact hi5 (x1, n3, n4) h H locs ls hw (lv_sub hl [2, 3, 1, 0] rfl)
theorem w_Mo_eight_5 {p : Program} {l : Launch} {e : Env} {s : State} {m : MethodId} {args : Array Value} {below : List Frame} {meth : Method} {c : Code} {D : va_G} {A : Nat → Prop} {ad : Nat → Nat} {ca : Nat → ClassId} (o : Int64) (C0 : z_cx z_RMo b_Mo_eight 6 (some .long) D (z_Mt ca) A p s m args meth c) (q : z_Sg) (x1 : Int64) (x3 : Int64) (x5 : Int32) (h : k_Mo_eight_5 x1 x3 x5 q = some o) : ∀ (H : Heap) (locs : List Loc) (ls : Array Slot), z_wd D (z_M ad ca q) A s H locs → lv_has ls 6 [(0, .ref (ad 0)), (1, .long x1), (3, .long x3), (5, .int x5)] → W p l e (z_rm 1 22) s m args below meth c H locs 0 0 (z_ql below D (z_Mt ca) (z_M ad ca q) A s args o) (F0 m 5 ls []) := by
  have key : ∀ (n : Nat) (a : Int64 × Int64 × Int32), z_lo (fun ih5 a => kb_Mo_eight_5 ih5 a.1 a.2.1 a.2.2 q) n a = some o → ∀ (H : Heap) (locs : List Loc) (ls : Array Slot), z_wd D (z_M ad ca q) A s H locs → lv_has ls 6 [(0, .ref (ad 0)), (1, .long a.1), (3, .long a.2.1), (5, .int a.2.2)] → W p l e (z_rm 1 22) s m args below meth c H locs 0 0 (z_ql below D (z_Mt ca) (z_M ad ca q) A s args o) (F0 m 5 ls []) := by
    intro n
    induction n with
    | zero => intro a h; cases h
    | succ n ih => exact fun a h => wb_Mo_eight_5 o C0 q (z_lo (fun ih5 a => kb_Mo_eight_5 ih5 a.1 a.2.1 a.2.2 q) n) ih a.1 a.2.1 a.2.2 h
  exact key 2000 (x1, x3, x5) h
set_option maxHeartbeats 4000000 in
set_option maxRecDepth 100000 in
theorem c_Mo_eight {l : Launch} {D : va_G} {ad : Nat → Nat} {ca : Nat → ClassId} (x1 : Int64) (q : z_Sg) (o : Int64) (h : f_Mo_eight x1 q = some o) : z_cl l y_Mo_eight b_Mo_eight 6 (some .long) 1 22 D (z_Mt ca) (z_M ad ca q) (z_M ad ca q) [.ref (ad 0), .long x1] o := by
  refine z_cl_of (own := z_RMo) (by decide) rfl ?_
  intro p e s m below meth c A C0 hw
  obtain ⟨hx, hb, hr, hlk, hml, hown, hts, hK, hA⟩ := id C0
  generalize hH : s.heap = H at hw ⊢
  generalize hlo : ([] : List Loc) = locs at hw ⊢
  refine z_entry (lv := [(0, .ref (ad 0)), (1, .long x1)]) (Nat.le_of_ble_eq_true rfl) rfl (fun ls hl => ?_)
  unfold f_Mo_eight at h
  refine lv_lconst (v := (0 : Int64)) hx hb d_Mo_eight_0 (by decide) ?_
  refine lv_lstore_n (lv' := [(3, .long (0 : Int64)), (0, .ref (ad 0)), (1, .long x1)]) hx hb d_Mo_eight_1 rfl hl (by decide) rfl (fun ls hl => ?_)
  refine lv_iconst (v := (0 : Int32)) hx hb d_Mo_eight_2 (by decide) ?_
  refine lv_istore (lv' := [(5, .int (0 : Int32)), (3, .long (0 : Int64)), (0, .ref (ad 0)), (1, .long x1)]) hx hb d_Mo_eight_3 hl (by decide) rfl (fun ls hl => ?_)
  exact w_Mo_eight_5 o C0 q x1 (0 : Int64) (0 : Int32) h H locs ls hw (lv_sub hl [2, 3, 1, 0] rfl)
def f_Mo_stored (x1 : Int32) (q : z_Sg) : Option Int64 :=
  (f_Mo_eight (x1.toInt64) q).bind (fun r1 => some r1)
set_option maxHeartbeats 4000000 in
set_option maxRecDepth 100000 in
theorem c_Mo_stored {l : Launch} {D : va_G} {ad : Nat → Nat} {ca : Nat → ClassId} (x1 : Int32) (q : z_Sg) (o : Int64) (h : f_Mo_stored x1 q = some o) : z_cl l y_Mo_stored b_Mo_stored 2 (some .long) 2 47 D (z_Mt ca) (z_M ad ca q) (z_M ad ca q) [.ref (ad 0), .int x1] o := by
  refine z_cl_of (own := z_RMo) (by decide) rfl ?_
  intro p e s m below meth c A C0 hw
  obtain ⟨hx, hb, hr, hlk, hml, hown, hts, hK, hA⟩ := id C0
  generalize hH : s.heap = H at hw ⊢
  generalize hlo : ([] : List Loc) = locs at hw ⊢
  refine z_entry (lv := [(0, .ref (ad 0)), (1, .int x1)]) (Nat.le_of_ble_eq_true rfl) rfl (fun ls hl => ?_)
  unfold f_Mo_stored at h
  refine lv_aload_n hx hb d_Mo_stored_0 rfl (lv_at hl 0 rfl) ?_
  refine lv_iload_n hx hb d_Mo_stored_1 rfl (lv_at hl 1 rfl) ?_
  refine lv_i2l hx hb d_Mo_stored_2 rfl ?_
  obtain ⟨r1, er1, h⟩ := ok_b h
  refine z_vl (rest := []) C0 hw (c_Mo_eight (x1.toInt64) q r1 er1) mw_Mo_eight ml_Mo_62 0 rfl ⟨Nat.le_of_ble_eq_true rfl, Nat.le_of_ble_eq_true rfl⟩ ⟨Nat.le_refl 0, Nat.le_refl 0⟩ rfl hl.1 rfl (Nat.le_of_ble_eq_true rfl) d_Mo_stored_3 (fun H locs hw => ?_)
  have ho := Option.some.inj h
  subst ho
  exact z_rtl C0 hw d_Mo_stored_6
def f_Mo_join (x0 : Int32) (x1 : Int32) (q : z_Sg) : Option Int64 :=
  some ((z_lshl (x0.toInt64) (32 : Int32)) ||| ((x1.toInt64) &&& (4294967295 : Int64)))
set_option maxHeartbeats 4000000 in
set_option maxRecDepth 100000 in
theorem c_Mo_join {l : Launch} {D : va_G} {ad : Nat → Nat} {ca : Nat → ClassId} (x0 : Int32) (x1 : Int32) (q : z_Sg) (o : Int64) (h : f_Mo_join x0 x1 q = some o) : z_cl l y_Mo_join b_Mo_join 2 (some .long) 0 0 D (z_Mt ca) (z_M ad ca q) (z_M ad ca q) [.int x0, .int x1] o := by
  refine z_cl_of (own := z_RMo) (by decide) rfl ?_
  intro p e s m below meth c A C0 hw
  obtain ⟨hx, hb, hr, hlk, hml, hown, hts, hK, hA⟩ := id C0
  generalize hH : s.heap = H at hw ⊢
  generalize hlo : ([] : List Loc) = locs at hw ⊢
  refine z_entry (lv := [(0, .int x0), (1, .int x1)]) (Nat.le_of_ble_eq_true rfl) rfl (fun ls hl => ?_)
  unfold f_Mo_join at h
  refine lv_iload_n hx hb d_Mo_join_0 rfl (lv_at hl 0 rfl) ?_
  refine lv_i2l hx hb d_Mo_join_1 rfl ?_
  refine lv_bipush (v := (32 : Int32)) hx hb d_Mo_join_2 (by decide) ?_
  refine lv_lshl (v := (z_lshl (x0.toInt64) (32 : Int32))) hx hb d_Mo_join_4 rfl ?_
  refine lv_iload_n hx hb d_Mo_join_5 rfl (lv_at hl 1 rfl) ?_
  refine lv_i2l hx hb d_Mo_join_6 rfl ?_
  refine lv_ldc2 (own := z_RMo) hx hb hown (hts _ kl_Mo_459) d_Mo_join_7 ?_
  refine lv_land hx hb d_Mo_join_10 ?_
  refine lv_lor hx hb d_Mo_join_11 ?_
  have ho := Option.some.inj h
  subst ho
  exact z_rtl C0 hw d_Mo_join_12
def k_Mo_setFlags_145 (t1 : Int32) (t2 : Int32) (q : z_Sg) : Option z_Sg :=
  if z_bad t1 7 then none else (z_nm (z_sN q 1 t1.toNatClampNeg (vp_nar .boolean t2)) (fun q21 => some q21))
def k_Mo_setFlags_123 (x1 : Int64) (t1 : Int32) (t2 : Int32) (q : z_Sg) : Option z_Sg :=
  if z_bad t1 7 then none else (z_nm (z_sN q 1 t1.toNatClampNeg (vp_nar .boolean t2)) (fun q18 => if (x1 &&& (2048 : Int64)) = (0 : Int64) then (k_Mo_setFlags_145 (6 : Int32) (0 : Int32) q18) else (k_Mo_setFlags_145 (6 : Int32) (1 : Int32) q18)))
def k_Mo_setFlags_102 (x1 : Int64) (t1 : Int32) (t2 : Int32) (q : z_Sg) : Option z_Sg :=
  if z_bad t1 7 then none else (z_nm (z_sN q 1 t1.toNatClampNeg (vp_nar .boolean t2)) (fun q15 => if (x1 &&& (1024 : Int64)) = (0 : Int64) then (k_Mo_setFlags_123 x1 (5 : Int32) (0 : Int32) q15) else (k_Mo_setFlags_123 x1 (5 : Int32) (1 : Int32) q15)))
def k_Mo_setFlags_81 (x1 : Int64) (t1 : Int32) (t2 : Int32) (q : z_Sg) : Option z_Sg :=
  if z_bad t1 7 then none else (z_nm (z_sN q 1 t1.toNatClampNeg (vp_nar .boolean t2)) (fun q12 => if (x1 &&& (128 : Int64)) = (0 : Int64) then (k_Mo_setFlags_102 x1 (4 : Int32) (0 : Int32) q12) else (k_Mo_setFlags_102 x1 (4 : Int32) (1 : Int32) q12)))
def k_Mo_setFlags_60 (x1 : Int64) (t1 : Int32) (t2 : Int32) (q : z_Sg) : Option z_Sg :=
  if z_bad t1 7 then none else (z_nm (z_sN q 1 t1.toNatClampNeg (vp_nar .boolean t2)) (fun q9 => if (x1 &&& (64 : Int64)) = (0 : Int64) then (k_Mo_setFlags_81 x1 (3 : Int32) (0 : Int32) q9) else (k_Mo_setFlags_81 x1 (3 : Int32) (1 : Int32) q9)))
def k_Mo_setFlags_39 (x1 : Int64) (t1 : Int32) (t2 : Int32) (q : z_Sg) : Option z_Sg :=
  if z_bad t1 7 then none else (z_nm (z_sN q 1 t1.toNatClampNeg (vp_nar .boolean t2)) (fun q6 => if (x1 &&& (16 : Int64)) = (0 : Int64) then (k_Mo_setFlags_60 x1 (2 : Int32) (0 : Int32) q6) else (k_Mo_setFlags_60 x1 (2 : Int32) (1 : Int32) q6)))
def k_Mo_setFlags_18 (x1 : Int64) (t1 : Int32) (t2 : Int32) (q : z_Sg) : Option z_Sg :=
  if z_bad t1 7 then none else (z_nm (z_sN q 1 t1.toNatClampNeg (vp_nar .boolean t2)) (fun q3 => if (x1 &&& (4 : Int64)) = (0 : Int64) then (k_Mo_setFlags_39 x1 (1 : Int32) (0 : Int32) q3) else (k_Mo_setFlags_39 x1 (1 : Int32) (1 : Int32) q3)))
def f_Mo_setFlags (x1 : Int64) (q : z_Sg) : Option z_Sg :=
  if (x1 &&& (1 : Int64)) = (0 : Int64) then (k_Mo_setFlags_18 x1 (0 : Int32) (0 : Int32) q) else (k_Mo_setFlags_18 x1 (0 : Int32) (1 : Int32) q)
set_option maxHeartbeats 4000000 in
set_option maxRecDepth 100000 in
theorem w_Mo_setFlags_145 {p : Program} {l : Launch} {e : Env} {s : State} {m : MethodId} {args : Array Value} {below : List Frame} {meth : Method} {c : Code} {D : va_G} {A : Nat → Prop} {ad : Nat → Nat} {ca : Nat → ClassId} (o : z_Sg) (C0 : z_cx z_RMo b_Mo_setFlags 3 none D (z_Mt ca) A p s m args meth c) (q : z_Sg) (t1 : Int32) (t2 : Int32) (h : k_Mo_setFlags_145 t1 t2 q = some o) : ∀ (H : Heap) (locs : List Loc) (ls : Array Slot), z_wd D (z_M ad ca q) A s H locs → lv_has ls 3 [] → W p l e (z_rm 0 0) s m args below meth c H locs 0 0 (z_qv below D (z_Mt ca) (z_M ad ca o) A s args) (F0 m 145 ls [.int t2, .int t1, .ref (ad 4)]) := by
  obtain ⟨hx, hb, hr, hlk, hml, hown, hts, hK, hA⟩ := id C0
  intro H locs ls hw hl
  obtain ⟨b20, h⟩ := ok_g h
  refine asM_4 C0 hw b20 d_Mo_setFlags_145 (fun H locs hw => ?_)
  obtain ⟨q21, eq21, h⟩ := ok_n h
  rw [← eq21] at hw
  have ho := Option.some.inj h
  subst ho
  exact z_rtv C0 hw d_Mo_setFlags_146
set_option maxHeartbeats 4000000 in
set_option maxRecDepth 100000 in
theorem w_Mo_setFlags_123 {p : Program} {l : Launch} {e : Env} {s : State} {m : MethodId} {args : Array Value} {below : List Frame} {meth : Method} {c : Code} {D : va_G} {A : Nat → Prop} {ad : Nat → Nat} {ca : Nat → ClassId} (o : z_Sg) (C0 : z_cx z_RMo b_Mo_setFlags 3 none D (z_Mt ca) A p s m args meth c) (q : z_Sg) (x1 : Int64) (t1 : Int32) (t2 : Int32) (h : k_Mo_setFlags_123 x1 t1 t2 q = some o) : ∀ (H : Heap) (locs : List Loc) (ls : Array Slot), z_wd D (z_M ad ca q) A s H locs → lv_has ls 3 [(0, .ref (ad 0)), (1, .long x1)] → W p l e (z_rm 0 0) s m args below meth c H locs 0 0 (z_qv below D (z_Mt ca) (z_M ad ca o) A s args) (F0 m 123 ls [.int t2, .int t1, .ref (ad 4)]) := by
  obtain ⟨hx, hb, hr, hlk, hml, hown, hts, hK, hA⟩ := id C0
  intro H locs ls hw hl
  obtain ⟨b17, h⟩ := ok_g h
  refine asM_4 C0 hw b17 d_Mo_setFlags_123 (fun H locs hw => ?_)
  obtain ⟨q18, eq18, h⟩ := ok_n h
  rw [← eq18] at hw
  refine lv_aload_n hx hb d_Mo_setFlags_124 rfl (lv_at hl 0 rfl) ?_
  refine gfM_0_flag C0 hw fl_Mo_21 d_Mo_setFlags_125 ?_
  refine lv_bipush (v := (6 : Int32)) hx hb d_Mo_setFlags_128 (by decide) ?_
  refine lv_lload_n hx hb d_Mo_setFlags_130 rfl (lv_at hl 1 rfl) ?_
  refine lv_ldc2 (own := z_RMo) hx hb hown (hts _ kl_Mo_457) d_Mo_setFlags_131 ?_
  refine lv_land hx hb d_Mo_setFlags_134 ?_
  refine lv_lconst (v := (0 : Int64)) hx hb d_Mo_setFlags_135 (by decide) ?_
  refine W.lcmp hx hb d_Mo_setFlags_136 ?_
  refine lv_if_eq (tgt := 144) hx hb d_Mo_setFlags_137 (by decide) (fun c19 => ?_) (fun c19 => ?_)
  · have h := ok_t h ((lg_cmp_eq _ _).mp c19)
    refine lv_iconst (v := (0 : Int32)) hx hb d_Mo_setFlags_144 (by decide) ?_
    exact w_Mo_setFlags_145 o C0 q18 (6 : Int32) (0 : Int32) h H locs ls hw (lv_sub hl [] rfl)
  · have h := ok_f h (fun z => c19 ((lg_cmp_eq _ _).mpr z))
    refine lv_iconst (v := (1 : Int32)) hx hb d_Mo_setFlags_140 (by decide) ?_
    refine lv_goto (tgt := 145) hx hb d_Mo_setFlags_141 (by decide) ?_
    exact w_Mo_setFlags_145 o C0 q18 (6 : Int32) (1 : Int32) h H locs ls hw (lv_sub hl [] rfl)
set_option maxHeartbeats 4000000 in
set_option maxRecDepth 100000 in
theorem w_Mo_setFlags_102 {p : Program} {l : Launch} {e : Env} {s : State} {m : MethodId} {args : Array Value} {below : List Frame} {meth : Method} {c : Code} {D : va_G} {A : Nat → Prop} {ad : Nat → Nat} {ca : Nat → ClassId} (o : z_Sg) (C0 : z_cx z_RMo b_Mo_setFlags 3 none D (z_Mt ca) A p s m args meth c) (q : z_Sg) (x1 : Int64) (t1 : Int32) (t2 : Int32) (h : k_Mo_setFlags_102 x1 t1 t2 q = some o) : ∀ (H : Heap) (locs : List Loc) (ls : Array Slot), z_wd D (z_M ad ca q) A s H locs → lv_has ls 3 [(0, .ref (ad 0)), (1, .long x1)] → W p l e (z_rm 0 0) s m args below meth c H locs 0 0 (z_qv below D (z_Mt ca) (z_M ad ca o) A s args) (F0 m 102 ls [.int t2, .int t1, .ref (ad 4)]) := by
  obtain ⟨hx, hb, hr, hlk, hml, hown, hts, hK, hA⟩ := id C0
  intro H locs ls hw hl
  obtain ⟨b14, h⟩ := ok_g h
  refine asM_4 C0 hw b14 d_Mo_setFlags_102 (fun H locs hw => ?_)
  obtain ⟨q15, eq15, h⟩ := ok_n h
  rw [← eq15] at hw
  refine lv_aload_n hx hb d_Mo_setFlags_103 rfl (lv_at hl 0 rfl) ?_
  refine gfM_0_flag C0 hw fl_Mo_21 d_Mo_setFlags_104 ?_
  refine lv_iconst (v := (5 : Int32)) hx hb d_Mo_setFlags_107 (by decide) ?_
  refine lv_lload_n hx hb d_Mo_setFlags_108 rfl (lv_at hl 1 rfl) ?_
  refine lv_ldc2 (own := z_RMo) hx hb hown (hts _ kl_Mo_455) d_Mo_setFlags_109 ?_
  refine lv_land hx hb d_Mo_setFlags_112 ?_
  refine lv_lconst (v := (0 : Int64)) hx hb d_Mo_setFlags_113 (by decide) ?_
  refine W.lcmp hx hb d_Mo_setFlags_114 ?_
  refine lv_if_eq (tgt := 122) hx hb d_Mo_setFlags_115 (by decide) (fun c16 => ?_) (fun c16 => ?_)
  · have h := ok_t h ((lg_cmp_eq _ _).mp c16)
    refine lv_iconst (v := (0 : Int32)) hx hb d_Mo_setFlags_122 (by decide) ?_
    exact w_Mo_setFlags_123 o C0 q15 x1 (5 : Int32) (0 : Int32) h H locs ls hw (lv_sub hl [0, 1] rfl)
  · have h := ok_f h (fun z => c16 ((lg_cmp_eq _ _).mpr z))
    refine lv_iconst (v := (1 : Int32)) hx hb d_Mo_setFlags_118 (by decide) ?_
    refine lv_goto (tgt := 123) hx hb d_Mo_setFlags_119 (by decide) ?_
    exact w_Mo_setFlags_123 o C0 q15 x1 (5 : Int32) (1 : Int32) h H locs ls hw (lv_sub hl [0, 1] rfl)
set_option maxHeartbeats 4000000 in
set_option maxRecDepth 100000 in
theorem w_Mo_setFlags_81 {p : Program} {l : Launch} {e : Env} {s : State} {m : MethodId} {args : Array Value} {below : List Frame} {meth : Method} {c : Code} {D : va_G} {A : Nat → Prop} {ad : Nat → Nat} {ca : Nat → ClassId} (o : z_Sg) (C0 : z_cx z_RMo b_Mo_setFlags 3 none D (z_Mt ca) A p s m args meth c) (q : z_Sg) (x1 : Int64) (t1 : Int32) (t2 : Int32) (h : k_Mo_setFlags_81 x1 t1 t2 q = some o) : ∀ (H : Heap) (locs : List Loc) (ls : Array Slot), z_wd D (z_M ad ca q) A s H locs → lv_has ls 3 [(0, .ref (ad 0)), (1, .long x1)] → W p l e (z_rm 0 0) s m args below meth c H locs 0 0 (z_qv below D (z_Mt ca) (z_M ad ca o) A s args) (F0 m 81 ls [.int t2, .int t1, .ref (ad 4)]) := by
  obtain ⟨hx, hb, hr, hlk, hml, hown, hts, hK, hA⟩ := id C0
  intro H locs ls hw hl
  obtain ⟨b11, h⟩ := ok_g h
  refine asM_4 C0 hw b11 d_Mo_setFlags_81 (fun H locs hw => ?_)
  obtain ⟨q12, eq12, h⟩ := ok_n h
  rw [← eq12] at hw
  refine lv_aload_n hx hb d_Mo_setFlags_82 rfl (lv_at hl 0 rfl) ?_
  refine gfM_0_flag C0 hw fl_Mo_21 d_Mo_setFlags_83 ?_
  refine lv_iconst (v := (4 : Int32)) hx hb d_Mo_setFlags_86 (by decide) ?_
  refine lv_lload_n hx hb d_Mo_setFlags_87 rfl (lv_at hl 1 rfl) ?_
  refine lv_ldc2 (own := z_RMo) hx hb hown (hts _ kl_Mo_66) d_Mo_setFlags_88 ?_
  refine lv_land hx hb d_Mo_setFlags_91 ?_
  refine lv_lconst (v := (0 : Int64)) hx hb d_Mo_setFlags_92 (by decide) ?_
  refine W.lcmp hx hb d_Mo_setFlags_93 ?_
  refine lv_if_eq (tgt := 101) hx hb d_Mo_setFlags_94 (by decide) (fun c13 => ?_) (fun c13 => ?_)
  · have h := ok_t h ((lg_cmp_eq _ _).mp c13)
    refine lv_iconst (v := (0 : Int32)) hx hb d_Mo_setFlags_101 (by decide) ?_
    exact w_Mo_setFlags_102 o C0 q12 x1 (4 : Int32) (0 : Int32) h H locs ls hw (lv_sub hl [0, 1] rfl)
  · have h := ok_f h (fun z => c13 ((lg_cmp_eq _ _).mpr z))
    refine lv_iconst (v := (1 : Int32)) hx hb d_Mo_setFlags_97 (by decide) ?_
    refine lv_goto (tgt := 102) hx hb d_Mo_setFlags_98 (by decide) ?_
    exact w_Mo_setFlags_102 o C0 q12 x1 (4 : Int32) (1 : Int32) h H locs ls hw (lv_sub hl [0, 1] rfl)
set_option maxHeartbeats 4000000 in
set_option maxRecDepth 100000 in
theorem w_Mo_setFlags_60 {p : Program} {l : Launch} {e : Env} {s : State} {m : MethodId} {args : Array Value} {below : List Frame} {meth : Method} {c : Code} {D : va_G} {A : Nat → Prop} {ad : Nat → Nat} {ca : Nat → ClassId} (o : z_Sg) (C0 : z_cx z_RMo b_Mo_setFlags 3 none D (z_Mt ca) A p s m args meth c) (q : z_Sg) (x1 : Int64) (t1 : Int32) (t2 : Int32) (h : k_Mo_setFlags_60 x1 t1 t2 q = some o) : ∀ (H : Heap) (locs : List Loc) (ls : Array Slot), z_wd D (z_M ad ca q) A s H locs → lv_has ls 3 [(0, .ref (ad 0)), (1, .long x1)] → W p l e (z_rm 0 0) s m args below meth c H locs 0 0 (z_qv below D (z_Mt ca) (z_M ad ca o) A s args) (F0 m 60 ls [.int t2, .int t1, .ref (ad 4)]) := by
  obtain ⟨hx, hb, hr, hlk, hml, hown, hts, hK, hA⟩ := id C0
  intro H locs ls hw hl
  obtain ⟨b8, h⟩ := ok_g h
  refine asM_4 C0 hw b8 d_Mo_setFlags_60 (fun H locs hw => ?_)
  obtain ⟨q9, eq9, h⟩ := ok_n h
  rw [← eq9] at hw
  refine lv_aload_n hx hb d_Mo_setFlags_61 rfl (lv_at hl 0 rfl) ?_
  refine gfM_0_flag C0 hw fl_Mo_21 d_Mo_setFlags_62 ?_
  refine lv_iconst (v := (3 : Int32)) hx hb d_Mo_setFlags_65 (by decide) ?_
  refine lv_lload_n hx hb d_Mo_setFlags_66 rfl (lv_at hl 1 rfl) ?_
  refine lv_ldc2 (own := z_RMo) hx hb hown (hts _ kl_Mo_453) d_Mo_setFlags_67 ?_
  refine lv_land hx hb d_Mo_setFlags_70 ?_
  refine lv_lconst (v := (0 : Int64)) hx hb d_Mo_setFlags_71 (by decide) ?_
  refine W.lcmp hx hb d_Mo_setFlags_72 ?_
  refine lv_if_eq (tgt := 80) hx hb d_Mo_setFlags_73 (by decide) (fun c10 => ?_) (fun c10 => ?_)
  · have h := ok_t h ((lg_cmp_eq _ _).mp c10)
    refine lv_iconst (v := (0 : Int32)) hx hb d_Mo_setFlags_80 (by decide) ?_
    exact w_Mo_setFlags_81 o C0 q9 x1 (3 : Int32) (0 : Int32) h H locs ls hw (lv_sub hl [0, 1] rfl)
  · have h := ok_f h (fun z => c10 ((lg_cmp_eq _ _).mpr z))
    refine lv_iconst (v := (1 : Int32)) hx hb d_Mo_setFlags_76 (by decide) ?_
    refine lv_goto (tgt := 81) hx hb d_Mo_setFlags_77 (by decide) ?_
    exact w_Mo_setFlags_81 o C0 q9 x1 (3 : Int32) (1 : Int32) h H locs ls hw (lv_sub hl [0, 1] rfl)
set_option maxHeartbeats 4000000 in
set_option maxRecDepth 100000 in
theorem w_Mo_setFlags_39 {p : Program} {l : Launch} {e : Env} {s : State} {m : MethodId} {args : Array Value} {below : List Frame} {meth : Method} {c : Code} {D : va_G} {A : Nat → Prop} {ad : Nat → Nat} {ca : Nat → ClassId} (o : z_Sg) (C0 : z_cx z_RMo b_Mo_setFlags 3 none D (z_Mt ca) A p s m args meth c) (q : z_Sg) (x1 : Int64) (t1 : Int32) (t2 : Int32) (h : k_Mo_setFlags_39 x1 t1 t2 q = some o) : ∀ (H : Heap) (locs : List Loc) (ls : Array Slot), z_wd D (z_M ad ca q) A s H locs → lv_has ls 3 [(0, .ref (ad 0)), (1, .long x1)] → W p l e (z_rm 0 0) s m args below meth c H locs 0 0 (z_qv below D (z_Mt ca) (z_M ad ca o) A s args) (F0 m 39 ls [.int t2, .int t1, .ref (ad 4)]) := by
  obtain ⟨hx, hb, hr, hlk, hml, hown, hts, hK, hA⟩ := id C0
  intro H locs ls hw hl
  obtain ⟨b5, h⟩ := ok_g h
  refine asM_4 C0 hw b5 d_Mo_setFlags_39 (fun H locs hw => ?_)
  obtain ⟨q6, eq6, h⟩ := ok_n h
  rw [← eq6] at hw
  refine lv_aload_n hx hb d_Mo_setFlags_40 rfl (lv_at hl 0 rfl) ?_
  refine gfM_0_flag C0 hw fl_Mo_21 d_Mo_setFlags_41 ?_
  refine lv_iconst (v := (2 : Int32)) hx hb d_Mo_setFlags_44 (by decide) ?_
  refine lv_lload_n hx hb d_Mo_setFlags_45 rfl (lv_at hl 1 rfl) ?_
  refine lv_ldc2 (own := z_RMo) hx hb hown (hts _ kl_Mo_451) d_Mo_setFlags_46 ?_
  refine lv_land hx hb d_Mo_setFlags_49 ?_
  refine lv_lconst (v := (0 : Int64)) hx hb d_Mo_setFlags_50 (by decide) ?_
  refine W.lcmp hx hb d_Mo_setFlags_51 ?_
  refine lv_if_eq (tgt := 59) hx hb d_Mo_setFlags_52 (by decide) (fun c7 => ?_) (fun c7 => ?_)
  · have h := ok_t h ((lg_cmp_eq _ _).mp c7)
    refine lv_iconst (v := (0 : Int32)) hx hb d_Mo_setFlags_59 (by decide) ?_
    exact w_Mo_setFlags_60 o C0 q6 x1 (2 : Int32) (0 : Int32) h H locs ls hw (lv_sub hl [0, 1] rfl)
  · have h := ok_f h (fun z => c7 ((lg_cmp_eq _ _).mpr z))
    refine lv_iconst (v := (1 : Int32)) hx hb d_Mo_setFlags_55 (by decide) ?_
    refine lv_goto (tgt := 60) hx hb d_Mo_setFlags_56 (by decide) ?_
    exact w_Mo_setFlags_60 o C0 q6 x1 (2 : Int32) (1 : Int32) h H locs ls hw (lv_sub hl [0, 1] rfl)
set_option maxHeartbeats 4000000 in
set_option maxRecDepth 100000 in
theorem w_Mo_setFlags_18 {p : Program} {l : Launch} {e : Env} {s : State} {m : MethodId} {args : Array Value} {below : List Frame} {meth : Method} {c : Code} {D : va_G} {A : Nat → Prop} {ad : Nat → Nat} {ca : Nat → ClassId} (o : z_Sg) (C0 : z_cx z_RMo b_Mo_setFlags 3 none D (z_Mt ca) A p s m args meth c) (q : z_Sg) (x1 : Int64) (t1 : Int32) (t2 : Int32) (h : k_Mo_setFlags_18 x1 t1 t2 q = some o) : ∀ (H : Heap) (locs : List Loc) (ls : Array Slot), z_wd D (z_M ad ca q) A s H locs → lv_has ls 3 [(0, .ref (ad 0)), (1, .long x1)] → W p l e (z_rm 0 0) s m args below meth c H locs 0 0 (z_qv below D (z_Mt ca) (z_M ad ca o) A s args) (F0 m 18 ls [.int t2, .int t1, .ref (ad 4)]) := by
  obtain ⟨hx, hb, hr, hlk, hml, hown, hts, hK, hA⟩ := id C0
  intro H locs ls hw hl
  obtain ⟨b2, h⟩ := ok_g h
  refine asM_4 C0 hw b2 d_Mo_setFlags_18 (fun H locs hw => ?_)
  obtain ⟨q3, eq3, h⟩ := ok_n h
  rw [← eq3] at hw
  refine lv_aload_n hx hb d_Mo_setFlags_19 rfl (lv_at hl 0 rfl) ?_
  refine gfM_0_flag C0 hw fl_Mo_21 d_Mo_setFlags_20 ?_
  refine lv_iconst (v := (1 : Int32)) hx hb d_Mo_setFlags_23 (by decide) ?_
  refine lv_lload_n hx hb d_Mo_setFlags_24 rfl (lv_at hl 1 rfl) ?_
  refine lv_ldc2 (own := z_RMo) hx hb hown (hts _ kl_Mo_75) d_Mo_setFlags_25 ?_
  refine lv_land hx hb d_Mo_setFlags_28 ?_
  refine lv_lconst (v := (0 : Int64)) hx hb d_Mo_setFlags_29 (by decide) ?_
  refine W.lcmp hx hb d_Mo_setFlags_30 ?_
  refine lv_if_eq (tgt := 38) hx hb d_Mo_setFlags_31 (by decide) (fun c4 => ?_) (fun c4 => ?_)
  · have h := ok_t h ((lg_cmp_eq _ _).mp c4)
    refine lv_iconst (v := (0 : Int32)) hx hb d_Mo_setFlags_38 (by decide) ?_
    exact w_Mo_setFlags_39 o C0 q3 x1 (1 : Int32) (0 : Int32) h H locs ls hw (lv_sub hl [0, 1] rfl)
  · have h := ok_f h (fun z => c4 ((lg_cmp_eq _ _).mpr z))
    refine lv_iconst (v := (1 : Int32)) hx hb d_Mo_setFlags_34 (by decide) ?_
    refine lv_goto (tgt := 39) hx hb d_Mo_setFlags_35 (by decide) ?_
    exact w_Mo_setFlags_39 o C0 q3 x1 (1 : Int32) (1 : Int32) h H locs ls hw (lv_sub hl [0, 1] rfl)
set_option maxHeartbeats 4000000 in
set_option maxRecDepth 100000 in
theorem c_Mo_setFlags {l : Launch} {D : va_G} {ad : Nat → Nat} {ca : Nat → ClassId} (x1 : Int64) (q : z_Sg) (o : z_Sg) (h : f_Mo_setFlags x1 q = some o) : z_cv l y_Mo_setFlags b_Mo_setFlags 3 none 0 0 D (z_Mt ca) (z_M ad ca q) (z_M ad ca o) [.ref (ad 0), .long x1] := by
  refine z_cv_of (own := z_RMo) (by decide) rfl ?_
  intro p e s m below meth c A C0 hw
  obtain ⟨hx, hb, hr, hlk, hml, hown, hts, hK, hA⟩ := id C0
  generalize hH : s.heap = H at hw ⊢
  generalize hlo : ([] : List Loc) = locs at hw ⊢
  refine z_entry (lv := [(0, .ref (ad 0)), (1, .long x1)]) (Nat.le_of_ble_eq_true rfl) rfl (fun ls hl => ?_)
  unfold f_Mo_setFlags at h
  refine lv_aload_n hx hb d_Mo_setFlags_0 rfl (lv_at hl 0 rfl) ?_
  refine gfM_0_flag C0 hw fl_Mo_21 d_Mo_setFlags_1 ?_
  refine lv_iconst (v := (0 : Int32)) hx hb d_Mo_setFlags_4 (by decide) ?_
  refine lv_lload_n hx hb d_Mo_setFlags_5 rfl (lv_at hl 1 rfl) ?_
  refine lv_lconst (v := (1 : Int64)) hx hb d_Mo_setFlags_6 (by decide) ?_
  refine lv_land hx hb d_Mo_setFlags_7 ?_
  refine lv_lconst (v := (0 : Int64)) hx hb d_Mo_setFlags_8 (by decide) ?_
  refine W.lcmp hx hb d_Mo_setFlags_9 ?_
  refine lv_if_eq (tgt := 17) hx hb d_Mo_setFlags_10 (by decide) (fun c1 => ?_) (fun c1 => ?_)
  · have h := ok_t h ((lg_cmp_eq _ _).mp c1)
    refine lv_iconst (v := (0 : Int32)) hx hb d_Mo_setFlags_17 (by decide) ?_
    exact w_Mo_setFlags_18 o C0 q x1 (0 : Int32) (0 : Int32) h H locs ls hw (lv_sub hl [0, 1] rfl)
  · have h := ok_f h (fun z => c1 ((lg_cmp_eq _ _).mpr z))
    refine lv_iconst (v := (1 : Int32)) hx hb d_Mo_setFlags_13 (by decide) ?_
    refine lv_goto (tgt := 18) hx hb d_Mo_setFlags_14 (by decide) ?_
    exact w_Mo_setFlags_18 o C0 q x1 (0 : Int32) (1 : Int32) h H locs ls hw (lv_sub hl [0, 1] rfl)
def k_Mo_set_17 (q : z_Sg) : Option (Int32 × z_Sg) :=
  some ((0 : Int32), q)
def k_Mo_set_105 (q : z_Sg) : Option (Int32 × z_Sg) :=
  some ((1 : Int32), q)
def k_Mo_set_93 (x1 : Int32) (x4 : Int64) (q : z_Sg) : Option (Int32 × z_Sg) :=
  if x1 = (21 : Int32) then (z_nm (z_sL q 4 x4) (fun q11 => k_Mo_set_105 q11)) else (k_Mo_set_105 q)
def k_Mo_set_81 (x1 : Int32) (x4 : Int64) (q : z_Sg) : Option (Int32 × z_Sg) :=
  if x1 = (20 : Int32) then ((f_Mo_setFlags x4 q).bind (fun r12 => k_Mo_set_93 x1 x4 r12)) else (k_Mo_set_93 x1 x4 q)
def k_Mo_set_69 (x1 : Int32) (x4 : Int64) (q : z_Sg) : Option (Int32 × z_Sg) :=
  if x1 = (19 : Int32) then (z_nm (z_sL q 3 x4) (fun q13 => k_Mo_set_81 x1 x4 q13)) else (k_Mo_set_81 x1 x4 q)
def k_Mo_set_57 (x1 : Int32) (x4 : Int64) (q : z_Sg) : Option (Int32 × z_Sg) :=
  if x1 = (18 : Int32) then (z_nm (z_sL q 2 x4) (fun q14 => k_Mo_set_69 x1 x4 q14)) else (k_Mo_set_69 x1 x4 q)
def k_Mo_set_45 (x1 : Int32) (x4 : Int64) (q : z_Sg) : Option (Int32 × z_Sg) :=
  if x1 = (17 : Int32) then (z_nm (z_sL q 1 x4) (fun q15 => k_Mo_set_57 x1 x4 q15)) else (k_Mo_set_57 x1 x4 q)
def k_Mo_set_33 (x1 : Int32) (x4 : Int64) (q : z_Sg) : Option (Int32 × z_Sg) :=
  if x1 = (16 : Int32) then (z_nm (z_sL q 0 x4) (fun q16 => k_Mo_set_45 x1 x4 q16)) else (k_Mo_set_45 x1 x4 q)
def f_Mo_set (x1 : Int32) (x2 : Int32) (x3 : Int32) (q : z_Sg) : Option (Int32 × z_Sg) :=
  (f_Mo_join x2 x3 q).bind (fun r1 => if x1 < 0 then (k_Mo_set_17 q) else (if x1 ≤ (21 : Int32) then (if (16 : Int32) ≤ x1 then (k_Mo_set_33 x1 r1 q) else (if z_bad x1 16 then none else (z_nm (z_sM q 0 x1.toNatClampNeg r1) (fun q18 => k_Mo_set_33 x1 r1 q18)))) else (k_Mo_set_17 q)))
set_option maxHeartbeats 4000000 in
set_option maxRecDepth 100000 in
theorem w_Mo_set_17 {p : Program} {l : Launch} {e : Env} {s : State} {m : MethodId} {args : Array Value} {below : List Frame} {meth : Method} {c : Code} {D : va_G} {A : Nat → Prop} {ad : Nat → Nat} {ca : Nat → ClassId} (o : (Int32 × z_Sg)) (C0 : z_cx z_RMo b_Mo_set 6 (some .boolean) D (z_Mt ca) A p s m args meth c) (q : z_Sg) (h : k_Mo_set_17 q = some o) : ∀ (H : Heap) (locs : List Loc) (ls : Array Slot), z_wd D (z_M ad ca q) A s H locs → lv_has ls 6 [] → W p l e (z_rm 1 22) s m args below meth c H locs 0 0 (z_qi below D (z_Mt ca) (z_M ad ca o.2) A s args o.1) (F0 m 17 ls []) := by
  obtain ⟨hx, hb, hr, hlk, hml, hown, hts, hK, hA⟩ := id C0
  intro H locs ls hw hl
  refine lv_iconst (v := (0 : Int32)) hx hb d_Mo_set_17 (by decide) ?_
  have ho := Option.some.inj h
  subst ho
  exact z_rtz C0 hw (z_bo_n (Or.inl rfl)) d_Mo_set_18
set_option maxHeartbeats 4000000 in
set_option maxRecDepth 100000 in
theorem w_Mo_set_105 {p : Program} {l : Launch} {e : Env} {s : State} {m : MethodId} {args : Array Value} {below : List Frame} {meth : Method} {c : Code} {D : va_G} {A : Nat → Prop} {ad : Nat → Nat} {ca : Nat → ClassId} (o : (Int32 × z_Sg)) (C0 : z_cx z_RMo b_Mo_set 6 (some .boolean) D (z_Mt ca) A p s m args meth c) (q : z_Sg) (h : k_Mo_set_105 q = some o) : ∀ (H : Heap) (locs : List Loc) (ls : Array Slot), z_wd D (z_M ad ca q) A s H locs → lv_has ls 6 [] → W p l e (z_rm 1 22) s m args below meth c H locs 0 0 (z_qi below D (z_Mt ca) (z_M ad ca o.2) A s args o.1) (F0 m 105 ls []) := by
  obtain ⟨hx, hb, hr, hlk, hml, hown, hts, hK, hA⟩ := id C0
  intro H locs ls hw hl
  refine lv_iconst (v := (1 : Int32)) hx hb d_Mo_set_105 (by decide) ?_
  have ho := Option.some.inj h
  subst ho
  exact z_rtz C0 hw (z_bo_n (Or.inr rfl)) d_Mo_set_106
set_option maxHeartbeats 4000000 in
set_option maxRecDepth 100000 in
theorem w_Mo_set_93 {p : Program} {l : Launch} {e : Env} {s : State} {m : MethodId} {args : Array Value} {below : List Frame} {meth : Method} {c : Code} {D : va_G} {A : Nat → Prop} {ad : Nat → Nat} {ca : Nat → ClassId} (o : (Int32 × z_Sg)) (C0 : z_cx z_RMo b_Mo_set 6 (some .boolean) D (z_Mt ca) A p s m args meth c) (q : z_Sg) (x1 : Int32) (x4 : Int64) (h : k_Mo_set_93 x1 x4 q = some o) : ∀ (H : Heap) (locs : List Loc) (ls : Array Slot), z_wd D (z_M ad ca q) A s H locs → lv_has ls 6 [(0, .ref (ad 0)), (1, .int x1), (4, .long x4)] → W p l e (z_rm 1 22) s m args below meth c H locs 0 0 (z_qi below D (z_Mt ca) (z_M ad ca o.2) A s args o.1) (F0 m 93 ls []) := by
  obtain ⟨hx, hb, hr, hlk, hml, hown, hts, hK, hA⟩ := id C0
  intro H locs ls hw hl
  refine lv_iload_n hx hb d_Mo_set_93 rfl (lv_at hl 1 rfl) ?_
  refine lv_bipush (v := (21 : Int32)) hx hb d_Mo_set_94 (by decide) ?_
  refine lv_icmp_ne (tgt := 105) hx hb d_Mo_set_96 (by decide) (fun c10 => ?_) (fun c10 => ?_)
  · have h := ok_f h c10
    exact w_Mo_set_105 o C0 q h H locs ls hw (lv_sub hl [] rfl)
  · have h := ok_t h c10
    refine lv_aload_n hx hb d_Mo_set_99 rfl (lv_at hl 0 rfl) ?_
    refine lv_lload hx hb d_Mo_set_100 (lv_at hl 2 rfl) ?_
    refine pfM_0_undefined C0 hw fl_Mo_205 d_Mo_set_102 (fun H locs hw => ?_)
    obtain ⟨q11, eq11, h⟩ := ok_n h
    rw [← eq11] at hw
    exact w_Mo_set_105 o C0 q11 h H locs ls hw (lv_sub hl [] rfl)
set_option maxHeartbeats 4000000 in
set_option maxRecDepth 100000 in
theorem w_Mo_set_81 {p : Program} {l : Launch} {e : Env} {s : State} {m : MethodId} {args : Array Value} {below : List Frame} {meth : Method} {c : Code} {D : va_G} {A : Nat → Prop} {ad : Nat → Nat} {ca : Nat → ClassId} (o : (Int32 × z_Sg)) (C0 : z_cx z_RMo b_Mo_set 6 (some .boolean) D (z_Mt ca) A p s m args meth c) (q : z_Sg) (x1 : Int32) (x4 : Int64) (h : k_Mo_set_81 x1 x4 q = some o) : ∀ (H : Heap) (locs : List Loc) (ls : Array Slot), z_wd D (z_M ad ca q) A s H locs → lv_has ls 6 [(0, .ref (ad 0)), (1, .int x1), (4, .long x4)] → W p l e (z_rm 1 22) s m args below meth c H locs 0 0 (z_qi below D (z_Mt ca) (z_M ad ca o.2) A s args o.1) (F0 m 81 ls []) := by
  obtain ⟨hx, hb, hr, hlk, hml, hown, hts, hK, hA⟩ := id C0
  intro H locs ls hw hl
  refine lv_iload_n hx hb d_Mo_set_81 rfl (lv_at hl 1 rfl) ?_
  refine lv_bipush (v := (20 : Int32)) hx hb d_Mo_set_82 (by decide) ?_
  refine lv_icmp_ne (tgt := 93) hx hb d_Mo_set_84 (by decide) (fun c9 => ?_) (fun c9 => ?_)
  · have h := ok_f h c9
    exact w_Mo_set_93 o C0 q x1 x4 h H locs ls hw (lv_sub hl [0, 1, 2] rfl)
  · have h := ok_t h c9
    refine lv_aload_n hx hb d_Mo_set_87 rfl (lv_at hl 0 rfl) ?_
    refine lv_lload hx hb d_Mo_set_88 (lv_at hl 2 rfl) ?_
    obtain ⟨r12, er12, h⟩ := ok_b h
    refine z_vv (rest := []) C0 hw (c_Mo_setFlags x4 q r12 er12) mw_Mo_setFlags ml_Mo_316 0 rfl ⟨Nat.le_of_ble_eq_true rfl, Nat.le_of_ble_eq_true rfl⟩ ⟨Nat.le_refl 0, Nat.le_refl 0⟩ rfl hl.1 rfl (Nat.le_of_ble_eq_true rfl) d_Mo_set_90 (fun H locs hw => ?_)
    exact w_Mo_set_93 o C0 r12 x1 x4 h H locs ls hw (lv_sub hl [0, 1, 2] rfl)
set_option maxHeartbeats 4000000 in
set_option maxRecDepth 100000 in
theorem w_Mo_set_69 {p : Program} {l : Launch} {e : Env} {s : State} {m : MethodId} {args : Array Value} {below : List Frame} {meth : Method} {c : Code} {D : va_G} {A : Nat → Prop} {ad : Nat → Nat} {ca : Nat → ClassId} (o : (Int32 × z_Sg)) (C0 : z_cx z_RMo b_Mo_set 6 (some .boolean) D (z_Mt ca) A p s m args meth c) (q : z_Sg) (x1 : Int32) (x4 : Int64) (h : k_Mo_set_69 x1 x4 q = some o) : ∀ (H : Heap) (locs : List Loc) (ls : Array Slot), z_wd D (z_M ad ca q) A s H locs → lv_has ls 6 [(0, .ref (ad 0)), (1, .int x1), (4, .long x4)] → W p l e (z_rm 1 22) s m args below meth c H locs 0 0 (z_qi below D (z_Mt ca) (z_M ad ca o.2) A s args o.1) (F0 m 69 ls []) := by
  obtain ⟨hx, hb, hr, hlk, hml, hown, hts, hK, hA⟩ := id C0
  intro H locs ls hw hl
  refine lv_iload_n hx hb d_Mo_set_69 rfl (lv_at hl 1 rfl) ?_
  refine lv_bipush (v := (19 : Int32)) hx hb d_Mo_set_70 (by decide) ?_
  refine lv_icmp_ne (tgt := 81) hx hb d_Mo_set_72 (by decide) (fun c8 => ?_) (fun c8 => ?_)
  · have h := ok_f h c8
    exact w_Mo_set_81 o C0 q x1 x4 h H locs ls hw (lv_sub hl [0, 1, 2] rfl)
  · have h := ok_t h c8
    refine lv_aload_n hx hb d_Mo_set_75 rfl (lv_at hl 0 rfl) ?_
    refine lv_lload hx hb d_Mo_set_76 (lv_at hl 2 rfl) ?_
    refine pfM_0_mask C0 hw fl_Mo_448 d_Mo_set_78 (fun H locs hw => ?_)
    obtain ⟨q13, eq13, h⟩ := ok_n h
    rw [← eq13] at hw
    exact w_Mo_set_81 o C0 q13 x1 x4 h H locs ls hw (lv_sub hl [0, 1, 2] rfl)
set_option maxHeartbeats 4000000 in
set_option maxRecDepth 100000 in
theorem w_Mo_set_57 {p : Program} {l : Launch} {e : Env} {s : State} {m : MethodId} {args : Array Value} {below : List Frame} {meth : Method} {c : Code} {D : va_G} {A : Nat → Prop} {ad : Nat → Nat} {ca : Nat → ClassId} (o : (Int32 × z_Sg)) (C0 : z_cx z_RMo b_Mo_set 6 (some .boolean) D (z_Mt ca) A p s m args meth c) (q : z_Sg) (x1 : Int32) (x4 : Int64) (h : k_Mo_set_57 x1 x4 q = some o) : ∀ (H : Heap) (locs : List Loc) (ls : Array Slot), z_wd D (z_M ad ca q) A s H locs → lv_has ls 6 [(0, .ref (ad 0)), (1, .int x1), (4, .long x4)] → W p l e (z_rm 1 22) s m args below meth c H locs 0 0 (z_qi below D (z_Mt ca) (z_M ad ca o.2) A s args o.1) (F0 m 57 ls []) := by
  obtain ⟨hx, hb, hr, hlk, hml, hown, hts, hK, hA⟩ := id C0
  intro H locs ls hw hl
  refine lv_iload_n hx hb d_Mo_set_57 rfl (lv_at hl 1 rfl) ?_
  refine lv_bipush (v := (18 : Int32)) hx hb d_Mo_set_58 (by decide) ?_
  refine lv_icmp_ne (tgt := 69) hx hb d_Mo_set_60 (by decide) (fun c7 => ?_) (fun c7 => ?_)
  · have h := ok_f h c7
    exact w_Mo_set_69 o C0 q x1 x4 h H locs ls hw (lv_sub hl [0, 1, 2] rfl)
  · have h := ok_t h c7
    refine lv_aload_n hx hb d_Mo_set_63 rfl (lv_at hl 0 rfl) ?_
    refine lv_lload hx hb d_Mo_set_64 (lv_at hl 2 rfl) ?_
    refine pfM_0_entryPlace C0 hw fl_Mo_445 d_Mo_set_66 (fun H locs hw => ?_)
    obtain ⟨q14, eq14, h⟩ := ok_n h
    rw [← eq14] at hw
    exact w_Mo_set_69 o C0 q14 x1 x4 h H locs ls hw (lv_sub hl [0, 1, 2] rfl)
set_option maxHeartbeats 4000000 in
set_option maxRecDepth 100000 in
theorem w_Mo_set_45 {p : Program} {l : Launch} {e : Env} {s : State} {m : MethodId} {args : Array Value} {below : List Frame} {meth : Method} {c : Code} {D : va_G} {A : Nat → Prop} {ad : Nat → Nat} {ca : Nat → ClassId} (o : (Int32 × z_Sg)) (C0 : z_cx z_RMo b_Mo_set 6 (some .boolean) D (z_Mt ca) A p s m args meth c) (q : z_Sg) (x1 : Int32) (x4 : Int64) (h : k_Mo_set_45 x1 x4 q = some o) : ∀ (H : Heap) (locs : List Loc) (ls : Array Slot), z_wd D (z_M ad ca q) A s H locs → lv_has ls 6 [(0, .ref (ad 0)), (1, .int x1), (4, .long x4)] → W p l e (z_rm 1 22) s m args below meth c H locs 0 0 (z_qi below D (z_Mt ca) (z_M ad ca o.2) A s args o.1) (F0 m 45 ls []) := by
  obtain ⟨hx, hb, hr, hlk, hml, hown, hts, hK, hA⟩ := id C0
  intro H locs ls hw hl
  refine lv_iload_n hx hb d_Mo_set_45 rfl (lv_at hl 1 rfl) ?_
  refine lv_bipush (v := (17 : Int32)) hx hb d_Mo_set_46 (by decide) ?_
  refine lv_icmp_ne (tgt := 57) hx hb d_Mo_set_48 (by decide) (fun c6 => ?_) (fun c6 => ?_)
  · have h := ok_f h c6
    exact w_Mo_set_57 o C0 q x1 x4 h H locs ls hw (lv_sub hl [0, 1, 2] rfl)
  · have h := ok_t h c6
    refine lv_aload_n hx hb d_Mo_set_51 rfl (lv_at hl 0 rfl) ?_
    refine lv_lload hx hb d_Mo_set_52 (lv_at hl 2 rfl) ?_
    refine pfM_0_table C0 hw fl_Mo_52 d_Mo_set_54 (fun H locs hw => ?_)
    obtain ⟨q15, eq15, h⟩ := ok_n h
    rw [← eq15] at hw
    exact w_Mo_set_57 o C0 q15 x1 x4 h H locs ls hw (lv_sub hl [0, 1, 2] rfl)
set_option maxHeartbeats 4000000 in
set_option maxRecDepth 100000 in
theorem w_Mo_set_33 {p : Program} {l : Launch} {e : Env} {s : State} {m : MethodId} {args : Array Value} {below : List Frame} {meth : Method} {c : Code} {D : va_G} {A : Nat → Prop} {ad : Nat → Nat} {ca : Nat → ClassId} (o : (Int32 × z_Sg)) (C0 : z_cx z_RMo b_Mo_set 6 (some .boolean) D (z_Mt ca) A p s m args meth c) (q : z_Sg) (x1 : Int32) (x4 : Int64) (h : k_Mo_set_33 x1 x4 q = some o) : ∀ (H : Heap) (locs : List Loc) (ls : Array Slot), z_wd D (z_M ad ca q) A s H locs → lv_has ls 6 [(0, .ref (ad 0)), (1, .int x1), (4, .long x4)] → W p l e (z_rm 1 22) s m args below meth c H locs 0 0 (z_qi below D (z_Mt ca) (z_M ad ca o.2) A s args o.1) (F0 m 33 ls []) := by
  obtain ⟨hx, hb, hr, hlk, hml, hown, hts, hK, hA⟩ := id C0
  intro H locs ls hw hl
  refine lv_iload_n hx hb d_Mo_set_33 rfl (lv_at hl 1 rfl) ?_
  refine lv_bipush (v := (16 : Int32)) hx hb d_Mo_set_34 (by decide) ?_
  refine lv_icmp_ne (tgt := 45) hx hb d_Mo_set_36 (by decide) (fun c5 => ?_) (fun c5 => ?_)
  · have h := ok_f h c5
    exact w_Mo_set_45 o C0 q x1 x4 h H locs ls hw (lv_sub hl [0, 1, 2] rfl)
  · have h := ok_t h c5
    refine lv_aload_n hx hb d_Mo_set_39 rfl (lv_at hl 0 rfl) ?_
    refine lv_lload hx hb d_Mo_set_40 (lv_at hl 2 rfl) ?_
    refine pfM_0_next C0 hw fl_Mo_111 d_Mo_set_42 (fun H locs hw => ?_)
    obtain ⟨q16, eq16, h⟩ := ok_n h
    rw [← eq16] at hw
    exact w_Mo_set_45 o C0 q16 x1 x4 h H locs ls hw (lv_sub hl [0, 1, 2] rfl)
set_option maxHeartbeats 4000000 in
set_option maxRecDepth 100000 in
theorem c_Mo_set {l : Launch} {D : va_G} {ad : Nat → Nat} {ca : Nat → ClassId} (x1 : Int32) (x2 : Int32) (x3 : Int32) (q : z_Sg) (o : (Int32 × z_Sg)) (h : f_Mo_set x1 x2 x3 q = some o) : z_ci l y_Mo_set b_Mo_set 6 (some .boolean) 1 22 D (z_Mt ca) (z_M ad ca q) (z_M ad ca o.2) [.ref (ad 0), .int x1, .int x2, .int x3] o.1 := by
  refine z_ci_of (own := z_RMo) (by decide) rfl ?_
  intro p e s m below meth c A C0 hw
  obtain ⟨hx, hb, hr, hlk, hml, hown, hts, hK, hA⟩ := id C0
  generalize hH : s.heap = H at hw ⊢
  generalize hlo : ([] : List Loc) = locs at hw ⊢
  refine z_entry (lv := [(0, .ref (ad 0)), (1, .int x1), (2, .int x2), (3, .int x3)]) (Nat.le_of_ble_eq_true rfl) rfl (fun ls hl => ?_)
  unfold f_Mo_set at h
  refine lv_iload_n hx hb d_Mo_set_0 rfl (lv_at hl 2 rfl) ?_
  refine lv_iload_n hx hb d_Mo_set_1 rfl (lv_at hl 3 rfl) ?_
  obtain ⟨r1, er1, h⟩ := ok_b h
  refine z_sl (rest := []) C0 hw (c_Mo_join x2 x3 q r1 er1) mw_Mo_join ml_Mo_461 ⟨Nat.le_of_ble_eq_true rfl, Nat.le_of_ble_eq_true rfl⟩ ⟨Nat.le_refl 0, Nat.le_refl 0⟩ rfl hl.1 rfl (Nat.le_of_ble_eq_true rfl) d_Mo_set_2 (fun H locs hw => ?_)
  refine lv_lstore (lv' := [(4, .long r1), (0, .ref (ad 0)), (1, .int x1), (2, .int x2), (3, .int x3)]) hx hb d_Mo_set_5 hl (by decide) rfl (fun ls hl => ?_)
  refine lv_iload_n hx hb d_Mo_set_7 rfl (lv_at hl 2 rfl) ?_
  refine lv_if_lt (tgt := 17) hx hb d_Mo_set_8 (by decide) (fun c2 => ?_) (fun c2 => ?_)
  · have h := ok_t h c2
    exact w_Mo_set_17 o C0 q h H locs ls hw (lv_sub hl [] rfl)
  · have h := ok_f h c2
    refine lv_iload_n hx hb d_Mo_set_11 rfl (lv_at hl 2 rfl) ?_
    refine lv_bipush (v := (21 : Int32)) hx hb d_Mo_set_12 (by decide) ?_
    refine lv_icmp_le (tgt := 19) hx hb d_Mo_set_14 (by decide) (fun c3 => ?_) (fun c3 => ?_)
    · have h := ok_t h c3
      refine lv_iload_n hx hb d_Mo_set_19 rfl (lv_at hl 2 rfl) ?_
      refine lv_bipush (v := (16 : Int32)) hx hb d_Mo_set_20 (by decide) ?_
      refine lv_icmp_ge (tgt := 33) hx hb d_Mo_set_22 (by decide) (fun c4 => ?_) (fun c4 => ?_)
      · have h := ok_t h c4
        exact w_Mo_set_33 o C0 q x1 r1 h H locs ls hw (lv_sub hl [1, 2, 0] rfl)
      · have h := ok_f h c4
        refine lv_aload_n hx hb d_Mo_set_25 rfl (lv_at hl 1 rfl) ?_
        refine gfM_0_r C0 hw fl_Mo_14 d_Mo_set_26 ?_
        refine lv_iload_n hx hb d_Mo_set_29 rfl (lv_at hl 2 rfl) ?_
        refine lv_lload hx hb d_Mo_set_30 (lv_at hl 0 rfl) ?_
        obtain ⟨b17, h⟩ := ok_g h
        refine asM_2 C0 hw b17 d_Mo_set_32 (fun H locs hw => ?_)
        obtain ⟨q18, eq18, h⟩ := ok_n h
        rw [← eq18] at hw
        exact w_Mo_set_33 o C0 q18 x1 r1 h H locs ls hw (lv_sub hl [1, 2, 0] rfl)
    · have h := ok_f h c3
      exact w_Mo_set_17 o C0 q h H locs ls hw (lv_sub hl [] rfl)
def k_Mo_flags_116 (t0 : Int64) (t1 : Int64) (q : z_Sg) : Option Int64 :=
  some (t0 + t1)
def k_Mo_flags_98 (t0 : Int64) (t1 : Int64) (q : z_Sg) : Option Int64 :=
  if z_bad (6 : Int32) 7 then none else (if (z_gN q 1 (6 : Int32).toNatClampNeg) = 0 then (k_Mo_flags_116 (t0 + t1) (0 : Int64) q) else (k_Mo_flags_116 (t0 + t1) (2048 : Int64) q))
def k_Mo_flags_81 (t0 : Int64) (t1 : Int64) (q : z_Sg) : Option Int64 :=
  if z_bad (5 : Int32) 7 then none else (if (z_gN q 1 (5 : Int32).toNatClampNeg) = 0 then (k_Mo_flags_98 (t0 + t1) (0 : Int64) q) else (k_Mo_flags_98 (t0 + t1) (1024 : Int64) q))
def k_Mo_flags_64 (t0 : Int64) (t1 : Int64) (q : z_Sg) : Option Int64 :=
  if z_bad (4 : Int32) 7 then none else (if (z_gN q 1 (4 : Int32).toNatClampNeg) = 0 then (k_Mo_flags_81 (t0 + t1) (0 : Int64) q) else (k_Mo_flags_81 (t0 + t1) (128 : Int64) q))
def k_Mo_flags_47 (t0 : Int64) (t1 : Int64) (q : z_Sg) : Option Int64 :=
  if z_bad (3 : Int32) 7 then none else (if (z_gN q 1 (3 : Int32).toNatClampNeg) = 0 then (k_Mo_flags_64 (t0 + t1) (0 : Int64) q) else (k_Mo_flags_64 (t0 + t1) (64 : Int64) q))
def k_Mo_flags_30 (t0 : Int64) (t1 : Int64) (q : z_Sg) : Option Int64 :=
  if z_bad (2 : Int32) 7 then none else (if (z_gN q 1 (2 : Int32).toNatClampNeg) = 0 then (k_Mo_flags_47 (t0 + t1) (0 : Int64) q) else (k_Mo_flags_47 (t0 + t1) (16 : Int64) q))
def k_Mo_flags_14 (t0 : Int64) (q : z_Sg) : Option Int64 :=
  if z_bad (1 : Int32) 7 then none else (if (z_gN q 1 (1 : Int32).toNatClampNeg) = 0 then (k_Mo_flags_30 t0 (0 : Int64) q) else (k_Mo_flags_30 t0 (4 : Int64) q))
def f_Mo_flags (q : z_Sg) : Option Int64 :=
  if z_bad (0 : Int32) 7 then none else (if (z_gN q 1 (0 : Int32).toNatClampNeg) = 0 then (k_Mo_flags_14 (0 : Int64) q) else (k_Mo_flags_14 (1 : Int64) q))
set_option maxHeartbeats 4000000 in
set_option maxRecDepth 100000 in
theorem w_Mo_flags_116 {p : Program} {l : Launch} {e : Env} {s : State} {m : MethodId} {args : Array Value} {below : List Frame} {meth : Method} {c : Code} {D : va_G} {A : Nat → Prop} {ad : Nat → Nat} {ca : Nat → ClassId} (o : Int64) (C0 : z_cx z_RMo b_Mo_flags 1 (some .long) D (z_Mt ca) A p s m args meth c) (q : z_Sg) (t0 : Int64) (t1 : Int64) (h : k_Mo_flags_116 t0 t1 q = some o) : ∀ (H : Heap) (locs : List Loc) (ls : Array Slot), z_wd D (z_M ad ca q) A s H locs → lv_has ls 1 [] → W p l e (z_rm 0 0) s m args below meth c H locs 0 0 (z_ql below D (z_Mt ca) (z_M ad ca q) A s args o) (F0 m 116 ls [.long t1, .long t0]) := by
  obtain ⟨hx, hb, hr, hlk, hml, hown, hts, hK, hA⟩ := id C0
  intro H locs ls hw hl
  refine lv_ladd hx hb d_Mo_flags_116 ?_
  have ho := Option.some.inj h
  subst ho
  exact z_rtl C0 hw d_Mo_flags_117
set_option maxHeartbeats 4000000 in
set_option maxRecDepth 100000 in
theorem w_Mo_flags_98 {p : Program} {l : Launch} {e : Env} {s : State} {m : MethodId} {args : Array Value} {below : List Frame} {meth : Method} {c : Code} {D : va_G} {A : Nat → Prop} {ad : Nat → Nat} {ca : Nat → ClassId} (o : Int64) (C0 : z_cx z_RMo b_Mo_flags 1 (some .long) D (z_Mt ca) A p s m args meth c) (q : z_Sg) (t0 : Int64) (t1 : Int64) (h : k_Mo_flags_98 t0 t1 q = some o) : ∀ (H : Heap) (locs : List Loc) (ls : Array Slot), z_wd D (z_M ad ca q) A s H locs → lv_has ls 1 [(0, .ref (ad 0))] → W p l e (z_rm 0 0) s m args below meth c H locs 0 0 (z_ql below D (z_Mt ca) (z_M ad ca q) A s args o) (F0 m 98 ls [.long t1, .long t0]) := by
  obtain ⟨hx, hb, hr, hlk, hml, hown, hts, hK, hA⟩ := id C0
  intro H locs ls hw hl
  refine lv_ladd hx hb d_Mo_flags_98 ?_
  refine lv_aload_n hx hb d_Mo_flags_99 rfl (lv_at hl 0 rfl) ?_
  refine gfM_0_flag C0 hw fl_Mo_21 d_Mo_flags_100 ?_
  refine lv_bipush (v := (6 : Int32)) hx hb d_Mo_flags_103 (by decide) ?_
  obtain ⟨b13, h⟩ := ok_g h
  refine alM_4 C0 hw b13 d_Mo_flags_105 ?_
  refine lv_if_eq (tgt := 115) hx hb d_Mo_flags_106 (by decide) (fun c14 => ?_) (fun c14 => ?_)
  · have h := ok_t h c14
    refine lv_lconst (v := (0 : Int64)) hx hb d_Mo_flags_115 (by decide) ?_
    exact w_Mo_flags_116 o C0 q (t0 + t1) (0 : Int64) h H locs ls hw (lv_sub hl [] rfl)
  · have h := ok_f h c14
    refine lv_ldc2 (own := z_RMo) hx hb hown (hts _ kl_Mo_457) d_Mo_flags_109 ?_
    refine lv_goto (tgt := 116) hx hb d_Mo_flags_112 (by decide) ?_
    exact w_Mo_flags_116 o C0 q (t0 + t1) (2048 : Int64) h H locs ls hw (lv_sub hl [] rfl)
set_option maxHeartbeats 4000000 in
set_option maxRecDepth 100000 in
theorem w_Mo_flags_81 {p : Program} {l : Launch} {e : Env} {s : State} {m : MethodId} {args : Array Value} {below : List Frame} {meth : Method} {c : Code} {D : va_G} {A : Nat → Prop} {ad : Nat → Nat} {ca : Nat → ClassId} (o : Int64) (C0 : z_cx z_RMo b_Mo_flags 1 (some .long) D (z_Mt ca) A p s m args meth c) (q : z_Sg) (t0 : Int64) (t1 : Int64) (h : k_Mo_flags_81 t0 t1 q = some o) : ∀ (H : Heap) (locs : List Loc) (ls : Array Slot), z_wd D (z_M ad ca q) A s H locs → lv_has ls 1 [(0, .ref (ad 0))] → W p l e (z_rm 0 0) s m args below meth c H locs 0 0 (z_ql below D (z_Mt ca) (z_M ad ca q) A s args o) (F0 m 81 ls [.long t1, .long t0]) := by
  obtain ⟨hx, hb, hr, hlk, hml, hown, hts, hK, hA⟩ := id C0
  intro H locs ls hw hl
  refine lv_ladd hx hb d_Mo_flags_81 ?_
  refine lv_aload_n hx hb d_Mo_flags_82 rfl (lv_at hl 0 rfl) ?_
  refine gfM_0_flag C0 hw fl_Mo_21 d_Mo_flags_83 ?_
  refine lv_iconst (v := (5 : Int32)) hx hb d_Mo_flags_86 (by decide) ?_
  obtain ⟨b11, h⟩ := ok_g h
  refine alM_4 C0 hw b11 d_Mo_flags_87 ?_
  refine lv_if_eq (tgt := 97) hx hb d_Mo_flags_88 (by decide) (fun c12 => ?_) (fun c12 => ?_)
  · have h := ok_t h c12
    refine lv_lconst (v := (0 : Int64)) hx hb d_Mo_flags_97 (by decide) ?_
    exact w_Mo_flags_98 o C0 q (t0 + t1) (0 : Int64) h H locs ls hw (lv_sub hl [0] rfl)
  · have h := ok_f h c12
    refine lv_ldc2 (own := z_RMo) hx hb hown (hts _ kl_Mo_455) d_Mo_flags_91 ?_
    refine lv_goto (tgt := 98) hx hb d_Mo_flags_94 (by decide) ?_
    exact w_Mo_flags_98 o C0 q (t0 + t1) (1024 : Int64) h H locs ls hw (lv_sub hl [0] rfl)
set_option maxHeartbeats 4000000 in
set_option maxRecDepth 100000 in
theorem w_Mo_flags_64 {p : Program} {l : Launch} {e : Env} {s : State} {m : MethodId} {args : Array Value} {below : List Frame} {meth : Method} {c : Code} {D : va_G} {A : Nat → Prop} {ad : Nat → Nat} {ca : Nat → ClassId} (o : Int64) (C0 : z_cx z_RMo b_Mo_flags 1 (some .long) D (z_Mt ca) A p s m args meth c) (q : z_Sg) (t0 : Int64) (t1 : Int64) (h : k_Mo_flags_64 t0 t1 q = some o) : ∀ (H : Heap) (locs : List Loc) (ls : Array Slot), z_wd D (z_M ad ca q) A s H locs → lv_has ls 1 [(0, .ref (ad 0))] → W p l e (z_rm 0 0) s m args below meth c H locs 0 0 (z_ql below D (z_Mt ca) (z_M ad ca q) A s args o) (F0 m 64 ls [.long t1, .long t0]) := by
  obtain ⟨hx, hb, hr, hlk, hml, hown, hts, hK, hA⟩ := id C0
  intro H locs ls hw hl
  refine lv_ladd hx hb d_Mo_flags_64 ?_
  refine lv_aload_n hx hb d_Mo_flags_65 rfl (lv_at hl 0 rfl) ?_
  refine gfM_0_flag C0 hw fl_Mo_21 d_Mo_flags_66 ?_
  refine lv_iconst (v := (4 : Int32)) hx hb d_Mo_flags_69 (by decide) ?_
  obtain ⟨b9, h⟩ := ok_g h
  refine alM_4 C0 hw b9 d_Mo_flags_70 ?_
  refine lv_if_eq (tgt := 80) hx hb d_Mo_flags_71 (by decide) (fun c10 => ?_) (fun c10 => ?_)
  · have h := ok_t h c10
    refine lv_lconst (v := (0 : Int64)) hx hb d_Mo_flags_80 (by decide) ?_
    exact w_Mo_flags_81 o C0 q (t0 + t1) (0 : Int64) h H locs ls hw (lv_sub hl [0] rfl)
  · have h := ok_f h c10
    refine lv_ldc2 (own := z_RMo) hx hb hown (hts _ kl_Mo_66) d_Mo_flags_74 ?_
    refine lv_goto (tgt := 81) hx hb d_Mo_flags_77 (by decide) ?_
    exact w_Mo_flags_81 o C0 q (t0 + t1) (128 : Int64) h H locs ls hw (lv_sub hl [0] rfl)
set_option maxHeartbeats 4000000 in
set_option maxRecDepth 100000 in
theorem w_Mo_flags_47 {p : Program} {l : Launch} {e : Env} {s : State} {m : MethodId} {args : Array Value} {below : List Frame} {meth : Method} {c : Code} {D : va_G} {A : Nat → Prop} {ad : Nat → Nat} {ca : Nat → ClassId} (o : Int64) (C0 : z_cx z_RMo b_Mo_flags 1 (some .long) D (z_Mt ca) A p s m args meth c) (q : z_Sg) (t0 : Int64) (t1 : Int64) (h : k_Mo_flags_47 t0 t1 q = some o) : ∀ (H : Heap) (locs : List Loc) (ls : Array Slot), z_wd D (z_M ad ca q) A s H locs → lv_has ls 1 [(0, .ref (ad 0))] → W p l e (z_rm 0 0) s m args below meth c H locs 0 0 (z_ql below D (z_Mt ca) (z_M ad ca q) A s args o) (F0 m 47 ls [.long t1, .long t0]) := by
  obtain ⟨hx, hb, hr, hlk, hml, hown, hts, hK, hA⟩ := id C0
  intro H locs ls hw hl
  refine lv_ladd hx hb d_Mo_flags_47 ?_
  refine lv_aload_n hx hb d_Mo_flags_48 rfl (lv_at hl 0 rfl) ?_
  refine gfM_0_flag C0 hw fl_Mo_21 d_Mo_flags_49 ?_
  refine lv_iconst (v := (3 : Int32)) hx hb d_Mo_flags_52 (by decide) ?_
  obtain ⟨b7, h⟩ := ok_g h
  refine alM_4 C0 hw b7 d_Mo_flags_53 ?_
  refine lv_if_eq (tgt := 63) hx hb d_Mo_flags_54 (by decide) (fun c8 => ?_) (fun c8 => ?_)
  · have h := ok_t h c8
    refine lv_lconst (v := (0 : Int64)) hx hb d_Mo_flags_63 (by decide) ?_
    exact w_Mo_flags_64 o C0 q (t0 + t1) (0 : Int64) h H locs ls hw (lv_sub hl [0] rfl)
  · have h := ok_f h c8
    refine lv_ldc2 (own := z_RMo) hx hb hown (hts _ kl_Mo_453) d_Mo_flags_57 ?_
    refine lv_goto (tgt := 64) hx hb d_Mo_flags_60 (by decide) ?_
    exact w_Mo_flags_64 o C0 q (t0 + t1) (64 : Int64) h H locs ls hw (lv_sub hl [0] rfl)
set_option maxHeartbeats 4000000 in
set_option maxRecDepth 100000 in
theorem w_Mo_flags_30 {p : Program} {l : Launch} {e : Env} {s : State} {m : MethodId} {args : Array Value} {below : List Frame} {meth : Method} {c : Code} {D : va_G} {A : Nat → Prop} {ad : Nat → Nat} {ca : Nat → ClassId} (o : Int64) (C0 : z_cx z_RMo b_Mo_flags 1 (some .long) D (z_Mt ca) A p s m args meth c) (q : z_Sg) (t0 : Int64) (t1 : Int64) (h : k_Mo_flags_30 t0 t1 q = some o) : ∀ (H : Heap) (locs : List Loc) (ls : Array Slot), z_wd D (z_M ad ca q) A s H locs → lv_has ls 1 [(0, .ref (ad 0))] → W p l e (z_rm 0 0) s m args below meth c H locs 0 0 (z_ql below D (z_Mt ca) (z_M ad ca q) A s args o) (F0 m 30 ls [.long t1, .long t0]) := by
  obtain ⟨hx, hb, hr, hlk, hml, hown, hts, hK, hA⟩ := id C0
  intro H locs ls hw hl
  refine lv_ladd hx hb d_Mo_flags_30 ?_
  refine lv_aload_n hx hb d_Mo_flags_31 rfl (lv_at hl 0 rfl) ?_
  refine gfM_0_flag C0 hw fl_Mo_21 d_Mo_flags_32 ?_
  refine lv_iconst (v := (2 : Int32)) hx hb d_Mo_flags_35 (by decide) ?_
  obtain ⟨b5, h⟩ := ok_g h
  refine alM_4 C0 hw b5 d_Mo_flags_36 ?_
  refine lv_if_eq (tgt := 46) hx hb d_Mo_flags_37 (by decide) (fun c6 => ?_) (fun c6 => ?_)
  · have h := ok_t h c6
    refine lv_lconst (v := (0 : Int64)) hx hb d_Mo_flags_46 (by decide) ?_
    exact w_Mo_flags_47 o C0 q (t0 + t1) (0 : Int64) h H locs ls hw (lv_sub hl [0] rfl)
  · have h := ok_f h c6
    refine lv_ldc2 (own := z_RMo) hx hb hown (hts _ kl_Mo_451) d_Mo_flags_40 ?_
    refine lv_goto (tgt := 47) hx hb d_Mo_flags_43 (by decide) ?_
    exact w_Mo_flags_47 o C0 q (t0 + t1) (16 : Int64) h H locs ls hw (lv_sub hl [0] rfl)
set_option maxHeartbeats 4000000 in
set_option maxRecDepth 100000 in
theorem w_Mo_flags_14 {p : Program} {l : Launch} {e : Env} {s : State} {m : MethodId} {args : Array Value} {below : List Frame} {meth : Method} {c : Code} {D : va_G} {A : Nat → Prop} {ad : Nat → Nat} {ca : Nat → ClassId} (o : Int64) (C0 : z_cx z_RMo b_Mo_flags 1 (some .long) D (z_Mt ca) A p s m args meth c) (q : z_Sg) (t0 : Int64) (h : k_Mo_flags_14 t0 q = some o) : ∀ (H : Heap) (locs : List Loc) (ls : Array Slot), z_wd D (z_M ad ca q) A s H locs → lv_has ls 1 [(0, .ref (ad 0))] → W p l e (z_rm 0 0) s m args below meth c H locs 0 0 (z_ql below D (z_Mt ca) (z_M ad ca q) A s args o) (F0 m 14 ls [.long t0]) := by
  obtain ⟨hx, hb, hr, hlk, hml, hown, hts, hK, hA⟩ := id C0
  intro H locs ls hw hl
  refine lv_aload_n hx hb d_Mo_flags_14 rfl (lv_at hl 0 rfl) ?_
  refine gfM_0_flag C0 hw fl_Mo_21 d_Mo_flags_15 ?_
  refine lv_iconst (v := (1 : Int32)) hx hb d_Mo_flags_18 (by decide) ?_
  obtain ⟨b3, h⟩ := ok_g h
  refine alM_4 C0 hw b3 d_Mo_flags_19 ?_
  refine lv_if_eq (tgt := 29) hx hb d_Mo_flags_20 (by decide) (fun c4 => ?_) (fun c4 => ?_)
  · have h := ok_t h c4
    refine lv_lconst (v := (0 : Int64)) hx hb d_Mo_flags_29 (by decide) ?_
    exact w_Mo_flags_30 o C0 q t0 (0 : Int64) h H locs ls hw (lv_sub hl [0] rfl)
  · have h := ok_f h c4
    refine lv_ldc2 (own := z_RMo) hx hb hown (hts _ kl_Mo_75) d_Mo_flags_23 ?_
    refine lv_goto (tgt := 30) hx hb d_Mo_flags_26 (by decide) ?_
    exact w_Mo_flags_30 o C0 q t0 (4 : Int64) h H locs ls hw (lv_sub hl [0] rfl)
set_option maxHeartbeats 4000000 in
set_option maxRecDepth 100000 in
theorem c_Mo_flags {l : Launch} {D : va_G} {ad : Nat → Nat} {ca : Nat → ClassId} (q : z_Sg) (o : Int64) (h : f_Mo_flags q = some o) : z_cl l y_Mo_flags b_Mo_flags 1 (some .long) 0 0 D (z_Mt ca) (z_M ad ca q) (z_M ad ca q) [.ref (ad 0)] o := by
  refine z_cl_of (own := z_RMo) (by decide) rfl ?_
  intro p e s m below meth c A C0 hw
  obtain ⟨hx, hb, hr, hlk, hml, hown, hts, hK, hA⟩ := id C0
  generalize hH : s.heap = H at hw ⊢
  generalize hlo : ([] : List Loc) = locs at hw ⊢
  refine z_entry (lv := [(0, .ref (ad 0))]) (Nat.le_of_ble_eq_true rfl) rfl (fun ls hl => ?_)
  unfold f_Mo_flags at h
  refine lv_aload_n hx hb d_Mo_flags_0 rfl (lv_at hl 0 rfl) ?_
  refine gfM_0_flag C0 hw fl_Mo_21 d_Mo_flags_1 ?_
  refine lv_iconst (v := (0 : Int32)) hx hb d_Mo_flags_4 (by decide) ?_
  obtain ⟨b1, h⟩ := ok_g h
  refine alM_4 C0 hw b1 d_Mo_flags_5 ?_
  refine lv_if_eq (tgt := 13) hx hb d_Mo_flags_6 (by decide) (fun c2 => ?_) (fun c2 => ?_)
  · have h := ok_t h c2
    refine lv_lconst (v := (0 : Int64)) hx hb d_Mo_flags_13 (by decide) ?_
    exact w_Mo_flags_14 o C0 q (0 : Int64) h H locs ls hw (lv_sub hl [0] rfl)
  · have h := ok_f h c2
    refine lv_lconst (v := (1 : Int64)) hx hb d_Mo_flags_9 (by decide) ?_
    refine lv_goto (tgt := 14) hx hb d_Mo_flags_10 (by decide) ?_
    exact w_Mo_flags_14 o C0 q (1 : Int64) h H locs ls hw (lv_sub hl [0] rfl)
def k_Mo_get_10 (q : z_Sg) : Option Int64 :=
  some (0 : Int64)
def k_Mo_get_127 (t0 : Int64) (q : z_Sg) : Option Int64 :=
  some t0
def f_Mo_get (x1 : Int32) (q : z_Sg) : Option Int64 :=
  if x1 < 0 then (k_Mo_get_10 q) else (if x1 ≤ (24 : Int32) then (if (16 : Int32) ≤ x1 then (if x1 = (16 : Int32) then (some (z_gL q 0)) else (if x1 = (17 : Int32) then (some (z_gL q 1)) else (if x1 = (18 : Int32) then (some (z_gL q 2)) else (if x1 = (19 : Int32) then (some (z_gL q 3)) else (if x1 = (20 : Int32) then ((f_Mo_flags q).bind (fun r9 => some r9)) else (if x1 = (21 : Int32) then (some (z_gL q 4)) else (if x1 = (22 : Int32) then (some (z_gL q 5)) else (if x1 = (23 : Int32) then (some ((z_gI q 0).toInt64)) else (if (z_gI q 2) = 0 then (k_Mo_get_127 (0 : Int64) q) else (k_Mo_get_127 (3 : Int64) q)))))))))) else (if z_bad x1 16 then none else (some (z_gM q 0 x1.toNatClampNeg)))) else (k_Mo_get_10 q))
set_option maxHeartbeats 4000000 in
set_option maxRecDepth 100000 in
theorem w_Mo_get_10 {p : Program} {l : Launch} {e : Env} {s : State} {m : MethodId} {args : Array Value} {below : List Frame} {meth : Method} {c : Code} {D : va_G} {A : Nat → Prop} {ad : Nat → Nat} {ca : Nat → ClassId} (o : Int64) (C0 : z_cx z_RMo b_Mo_get 2 (some .long) D (z_Mt ca) A p s m args meth c) (q : z_Sg) (h : k_Mo_get_10 q = some o) : ∀ (H : Heap) (locs : List Loc) (ls : Array Slot), z_wd D (z_M ad ca q) A s H locs → lv_has ls 2 [] → W p l e (z_rm 1 20) s m args below meth c H locs 0 0 (z_ql below D (z_Mt ca) (z_M ad ca q) A s args o) (F0 m 10 ls []) := by
  obtain ⟨hx, hb, hr, hlk, hml, hown, hts, hK, hA⟩ := id C0
  intro H locs ls hw hl
  refine lv_lconst (v := (0 : Int64)) hx hb d_Mo_get_10 (by decide) ?_
  have ho := Option.some.inj h
  subst ho
  exact z_rtl C0 hw d_Mo_get_11
set_option maxHeartbeats 4000000 in
set_option maxRecDepth 100000 in
theorem w_Mo_get_127 {p : Program} {l : Launch} {e : Env} {s : State} {m : MethodId} {args : Array Value} {below : List Frame} {meth : Method} {c : Code} {D : va_G} {A : Nat → Prop} {ad : Nat → Nat} {ca : Nat → ClassId} (o : Int64) (C0 : z_cx z_RMo b_Mo_get 2 (some .long) D (z_Mt ca) A p s m args meth c) (q : z_Sg) (t0 : Int64) (h : k_Mo_get_127 t0 q = some o) : ∀ (H : Heap) (locs : List Loc) (ls : Array Slot), z_wd D (z_M ad ca q) A s H locs → lv_has ls 2 [] → W p l e (z_rm 1 20) s m args below meth c H locs 0 0 (z_ql below D (z_Mt ca) (z_M ad ca q) A s args o) (F0 m 127 ls [.long t0]) := by
  obtain ⟨hx, hb, hr, hlk, hml, hown, hts, hK, hA⟩ := id C0
  intro H locs ls hw hl
  have ho := Option.some.inj h
  subst ho
  exact z_rtl C0 hw d_Mo_get_127
set_option maxHeartbeats 4000000 in
set_option maxRecDepth 100000 in
theorem c_Mo_get {l : Launch} {D : va_G} {ad : Nat → Nat} {ca : Nat → ClassId} (x1 : Int32) (q : z_Sg) (o : Int64) (h : f_Mo_get x1 q = some o) : z_cl l y_Mo_get b_Mo_get 2 (some .long) 1 20 D (z_Mt ca) (z_M ad ca q) (z_M ad ca q) [.ref (ad 0), .int x1] o := by
  refine z_cl_of (own := z_RMo) (by decide) rfl ?_
  intro p e s m below meth c A C0 hw
  obtain ⟨hx, hb, hr, hlk, hml, hown, hts, hK, hA⟩ := id C0
  generalize hH : s.heap = H at hw ⊢
  generalize hlo : ([] : List Loc) = locs at hw ⊢
  refine z_entry (lv := [(0, .ref (ad 0)), (1, .int x1)]) (Nat.le_of_ble_eq_true rfl) rfl (fun ls hl => ?_)
  unfold f_Mo_get at h
  refine lv_iload_n hx hb d_Mo_get_0 rfl (lv_at hl 1 rfl) ?_
  refine lv_if_lt (tgt := 10) hx hb d_Mo_get_1 (by decide) (fun c1 => ?_) (fun c1 => ?_)
  · have h := ok_t h c1
    exact w_Mo_get_10 o C0 q h H locs ls hw (lv_sub hl [] rfl)
  · have h := ok_f h c1
    refine lv_iload_n hx hb d_Mo_get_4 rfl (lv_at hl 1 rfl) ?_
    refine lv_bipush (v := (24 : Int32)) hx hb d_Mo_get_5 (by decide) ?_
    refine lv_icmp_le (tgt := 12) hx hb d_Mo_get_7 (by decide) (fun c2 => ?_) (fun c2 => ?_)
    · have h := ok_t h c2
      refine lv_iload_n hx hb d_Mo_get_12 rfl (lv_at hl 1 rfl) ?_
      refine lv_bipush (v := (16 : Int32)) hx hb d_Mo_get_13 (by decide) ?_
      refine lv_icmp_ge (tgt := 25) hx hb d_Mo_get_15 (by decide) (fun c3 => ?_) (fun c3 => ?_)
      · have h := ok_t h c3
        refine lv_iload_n hx hb d_Mo_get_25 rfl (lv_at hl 1 rfl) ?_
        by_cases c4 : x1 = (16 : Int32)
        · have h := ok_t h c4
          refine lv_tableIn (off := 46) (tgt := 72) hx hb d_Mo_get_26 (by rw [c4]; decide) (by rw [c4]; decide) (by rw [c4]; rfl) (by decide) ?_
          refine lv_aload_n hx hb d_Mo_get_72 rfl (lv_at hl 0 rfl) ?_
          refine gfM_0_next C0 hw fl_Mo_111 d_Mo_get_73 ?_
          have ho := Option.some.inj h
          subst ho
          exact z_rtl C0 hw d_Mo_get_76
        have h := ok_f h c4
        by_cases c5 : x1 = (17 : Int32)
        · have h := ok_t h c5
          refine lv_tableIn (off := 51) (tgt := 77) hx hb d_Mo_get_26 (by rw [c5]; decide) (by rw [c5]; decide) (by rw [c5]; rfl) (by decide) ?_
          refine lv_aload_n hx hb d_Mo_get_77 rfl (lv_at hl 0 rfl) ?_
          refine gfM_0_table C0 hw fl_Mo_52 d_Mo_get_78 ?_
          have ho := Option.some.inj h
          subst ho
          exact z_rtl C0 hw d_Mo_get_81
        have h := ok_f h c5
        by_cases c6 : x1 = (18 : Int32)
        · have h := ok_t h c6
          refine lv_tableIn (off := 56) (tgt := 82) hx hb d_Mo_get_26 (by rw [c6]; decide) (by rw [c6]; decide) (by rw [c6]; rfl) (by decide) ?_
          refine lv_aload_n hx hb d_Mo_get_82 rfl (lv_at hl 0 rfl) ?_
          refine gfM_0_entryPlace C0 hw fl_Mo_445 d_Mo_get_83 ?_
          have ho := Option.some.inj h
          subst ho
          exact z_rtl C0 hw d_Mo_get_86
        have h := ok_f h c6
        by_cases c7 : x1 = (19 : Int32)
        · have h := ok_t h c7
          refine lv_tableIn (off := 61) (tgt := 87) hx hb d_Mo_get_26 (by rw [c7]; decide) (by rw [c7]; decide) (by rw [c7]; rfl) (by decide) ?_
          refine lv_aload_n hx hb d_Mo_get_87 rfl (lv_at hl 0 rfl) ?_
          refine gfM_0_mask C0 hw fl_Mo_448 d_Mo_get_88 ?_
          have ho := Option.some.inj h
          subst ho
          exact z_rtl C0 hw d_Mo_get_91
        have h := ok_f h c7
        by_cases c8 : x1 = (20 : Int32)
        · have h := ok_t h c8
          refine lv_tableIn (off := 66) (tgt := 92) hx hb d_Mo_get_26 (by rw [c8]; decide) (by rw [c8]; decide) (by rw [c8]; rfl) (by decide) ?_
          refine lv_aload_n hx hb d_Mo_get_92 rfl (lv_at hl 0 rfl) ?_
          obtain ⟨r9, er9, h⟩ := ok_b h
          refine z_vl (rest := []) C0 hw (c_Mo_flags q r9 er9) mw_Mo_flags ml_Mo_304 0 rfl ⟨Nat.le_of_ble_eq_true rfl, Nat.le_of_ble_eq_true rfl⟩ ⟨Nat.le_refl 0, Nat.le_refl 0⟩ rfl hl.1 rfl (Nat.le_of_ble_eq_true rfl) d_Mo_get_93 (fun H locs hw => ?_)
          have ho := Option.some.inj h
          subst ho
          exact z_rtl C0 hw d_Mo_get_96
        have h := ok_f h c8
        by_cases c10 : x1 = (21 : Int32)
        · have h := ok_t h c10
          refine lv_tableIn (off := 71) (tgt := 97) hx hb d_Mo_get_26 (by rw [c10]; decide) (by rw [c10]; decide) (by rw [c10]; rfl) (by decide) ?_
          refine lv_aload_n hx hb d_Mo_get_97 rfl (lv_at hl 0 rfl) ?_
          refine gfM_0_undefined C0 hw fl_Mo_205 d_Mo_get_98 ?_
          have ho := Option.some.inj h
          subst ho
          exact z_rtl C0 hw d_Mo_get_101
        have h := ok_f h c10
        by_cases c11 : x1 = (22 : Int32)
        · have h := ok_t h c11
          refine lv_tableIn (off := 76) (tgt := 102) hx hb d_Mo_get_26 (by rw [c11]; decide) (by rw [c11]; decide) (by rw [c11]; rfl) (by decide) ?_
          refine lv_aload_n hx hb d_Mo_get_102 rfl (lv_at hl 0 rfl) ?_
          refine gfM_0_fault C0 hw fl_Mo_89 d_Mo_get_103 ?_
          have ho := Option.some.inj h
          subst ho
          exact z_rtl C0 hw d_Mo_get_106
        have h := ok_f h c11
        by_cases c12 : x1 = (23 : Int32)
        · have h := ok_t h c12
          refine lv_tableIn (off := 81) (tgt := 107) hx hb d_Mo_get_26 (by rw [c12]; decide) (by rw [c12]; decide) (by rw [c12]; rfl) (by decide) ?_
          refine lv_aload_n hx hb d_Mo_get_107 rfl (lv_at hl 0 rfl) ?_
          refine gfM_0_code C0 hw fl_Mo_92 d_Mo_get_108 ?_
          refine lv_i2l hx hb d_Mo_get_111 rfl ?_
          have ho := Option.some.inj h
          subst ho
          exact z_rtl C0 hw d_Mo_get_112
        have h := ok_f h c12
        refine lv_tableOut (tgt := 113) hx hb d_Mo_get_26 (by have zc4 := lv_neT c4 (a := 16) rfl; have zc5 := lv_neT c5 (a := 17) rfl; have zc6 := lv_neT c6 (a := 18) rfl; have zc7 := lv_neT c7 (a := 19) rfl; have zc8 := lv_neT c8 (a := 20) rfl; have zc10 := lv_neT c10 (a := 21) rfl; have zc11 := lv_neT c11 (a := 22) rfl; have zc12 := lv_neT c12 (a := 23) rfl; omega) (by decide) ?_
        refine lv_aload_n hx hb d_Mo_get_113 rfl (lv_at hl 0 rfl) ?_
        refine gfM_0_user C0 hw fl_Mo_48 d_Mo_get_114 ?_
        refine lv_if_eq (tgt := 126) hx hb d_Mo_get_117 (by decide) (fun c13 => ?_) (fun c13 => ?_)
        · have h := ok_t h c13
          refine lv_lconst (v := (0 : Int64)) hx hb d_Mo_get_126 (by decide) ?_
          exact w_Mo_get_127 o C0 q (0 : Int64) h H locs ls hw (lv_sub hl [] rfl)
        · have h := ok_f h c13
          refine lv_ldc2 (own := z_RMo) hx hb hown (hts _ kl_Mo_464) d_Mo_get_120 ?_
          refine lv_goto (tgt := 127) hx hb d_Mo_get_123 (by decide) ?_
          exact w_Mo_get_127 o C0 q (3 : Int64) h H locs ls hw (lv_sub hl [] rfl)
      · have h := ok_f h c3
        refine lv_aload_n hx hb d_Mo_get_18 rfl (lv_at hl 0 rfl) ?_
        refine gfM_0_r C0 hw fl_Mo_14 d_Mo_get_19 ?_
        refine lv_iload_n hx hb d_Mo_get_22 rfl (lv_at hl 1 rfl) ?_
        obtain ⟨b14, h⟩ := ok_g h
        refine alM_2 C0 hw b14 d_Mo_get_23 ?_
        have ho := Option.some.inj h
        subst ho
        exact z_rtl C0 hw d_Mo_get_24
    · have h := ok_f h c2
      exact w_Mo_get_10 o C0 q h H locs ls hw (lv_sub hl [] rfl)
def f_Mo_level (x1 : Int32) (q : z_Sg) : Option z_Sg :=
  z_gd (z_bo x1) (z_nm (z_sI q 2 x1) (fun q2 => some q2))
set_option maxHeartbeats 4000000 in
set_option maxRecDepth 100000 in
theorem c_Mo_level {l : Launch} {D : va_G} {ad : Nat → Nat} {ca : Nat → ClassId} (x1 : Int32) (q : z_Sg) (o : z_Sg) (h : f_Mo_level x1 q = some o) : z_cv l y_Mo_level b_Mo_level 2 none 0 0 D (z_Mt ca) (z_M ad ca q) (z_M ad ca o) [.ref (ad 0), .int x1] := by
  refine z_cv_of (own := z_RMo) (by decide) rfl ?_
  intro p e s m below meth c A C0 hw
  obtain ⟨hx, hb, hr, hlk, hml, hown, hts, hK, hA⟩ := id C0
  generalize hH : s.heap = H at hw ⊢
  generalize hlo : ([] : List Loc) = locs at hw ⊢
  refine z_entry (lv := [(0, .ref (ad 0)), (1, .int x1)]) (Nat.le_of_ble_eq_true rfl) rfl (fun ls hl => ?_)
  unfold f_Mo_level at h
  refine lv_aload_n hx hb d_Mo_level_0 rfl (lv_at hl 0 rfl) ?_
  refine lv_iload_n hx hb d_Mo_level_1 rfl (lv_at hl 1 rfl) ?_
  obtain ⟨b1, h⟩ := ok_G h
  refine pfM_0_user C0 hw b1 fl_Mo_48 d_Mo_level_2 (fun H locs hw => ?_)
  obtain ⟨q2, eq2, h⟩ := ok_n h
  rw [← eq2] at hw
  have ho := Option.some.inj h
  subst ho
  exact z_rtv C0 hw d_Mo_level_5
def k_Mo_isWrong_59 (ih23 : Int64 × Int32 × Int32 × Int32 → Option Int32) (x0 : Int64) (x2 : Int32) (x4 : Int32) (t0 : Int32) (q : z_Sg) : Option Int32 :=
  z_nm (x4 + (1 : Int32)) (fun n5 => ih23 (x0, x2, t0, n5))
def k_Mo_isWrong_54 (ih23 : Int64 × Int32 × Int32 × Int32 → Option Int32) (x0 : Int64) (x2 : Int32) (x4 : Int32) (q : z_Sg) : Option Int32 :=
  k_Mo_isWrong_59 ih23 x0 x2 x4 (1 : Int32) q
def k_Mo_isWrong_50 (ih23 : Int64 × Int32 × Int32 × Int32 → Option Int32) (x0 : Int64) (x2 : Int32) (x4 : Int32) (t0 : Int32) (q : z_Sg) : Option Int32 :=
  if t0 = x2 then (k_Mo_isWrong_59 ih23 x0 x2 x4 (0 : Int32) q) else (k_Mo_isWrong_54 ih23 x0 x2 x4 q)
def kb_Mo_isWrong_23 (ih23 : Int64 × Int32 × Int32 × Int32 → Option Int32) (x0 : Int64) (x2 : Int32) (x3 : Int32) (x4 : Int32) (q : z_Sg) : Option Int32 :=
  if (64 : Int32) ≤ x4 then (z_gd (z_bo x3) (some x3)) else (if x3 = 0 then (if ((z_lushr x0 x4) &&& (1 : Int64)) = (1 : Int64) then (k_Mo_isWrong_50 ih23 x0 x2 x4 (1 : Int32) q) else (k_Mo_isWrong_50 ih23 x0 x2 x4 (0 : Int32) q)) else (k_Mo_isWrong_54 ih23 x0 x2 x4 q))
def k_Mo_isWrong_23 (x0 : Int64) (x2 : Int32) (x3 : Int32) (x4 : Int32) (q : z_Sg) : Option Int32 := z_lo (fun ih23 a => kb_Mo_isWrong_23 ih23 a.1 a.2.1 a.2.2.1 a.2.2.2 q) 2000 (x0, x2, x3, x4)
def k_Mo_isWrong_16 (x0 : Int64) (t0 : Int32) (q : z_Sg) : Option Int32 :=
  k_Mo_isWrong_23 x0 t0 (0 : Int32) (48 : Int32) q
def f_Mo_isWrong (x0 : Int64) (q : z_Sg) : Option Int32 :=
  if ((z_lushr x0 (47 : Int32)) &&& (1 : Int64)) = (1 : Int64) then (k_Mo_isWrong_16 x0 (1 : Int32) q) else (k_Mo_isWrong_16 x0 (0 : Int32) q)
set_option maxHeartbeats 4000000 in
set_option maxRecDepth 100000 in
theorem w_Mo_isWrong_59 {p : Program} {l : Launch} {e : Env} {s : State} {m : MethodId} {args : Array Value} {below : List Frame} {meth : Method} {c : Code} {D : va_G} {A : Nat → Prop} {ad : Nat → Nat} {ca : Nat → ClassId} (o : Int32) (C0 : z_cx z_RMo b_Mo_isWrong 5 (some .boolean) D (z_Mt ca) A p s m args meth c) (q : z_Sg) (ih23 : Int64 × Int32 × Int32 × Int32 → Option Int32) (hi23 : ∀ a : Int64 × Int32 × Int32 × Int32, ih23 a = some o → ∀ (H : Heap) (locs : List Loc) (ls : Array Slot), z_wd D (z_M ad ca q) A s H locs → lv_has ls 5 [(0, .long a.1), (2, .int a.2.1), (3, .int a.2.2.1), (4, .int a.2.2.2)] → W p l e (z_rm 0 0) s m args below meth c H locs 0 0 (z_qi below D (z_Mt ca) (z_M ad ca q) A s args o) (F0 m 23 ls [])) (x0 : Int64) (x2 : Int32) (x4 : Int32) (t0 : Int32) (h : k_Mo_isWrong_59 ih23 x0 x2 x4 t0 q = some o) : ∀ (H : Heap) (locs : List Loc) (ls : Array Slot), z_wd D (z_M ad ca q) A s H locs → lv_has ls 5 [(0, .long x0), (2, .int x2), (4, .int x4)] → W p l e (z_rm 0 0) s m args below meth c H locs 0 0 (z_qi below D (z_Mt ca) (z_M ad ca q) A s args o) (F0 m 59 ls [.int t0]) := by
  obtain ⟨hx, hb, hr, hlk, hml, hown, hts, hK, hA⟩ := id C0
  intro H locs ls hw hl
  refine lv_istore_n (lv' := [(3, .int t0), (0, .long x0), (2, .int x2), (4, .int x4)]) hx hb d_Mo_isWrong_59 rfl hl (by decide) rfl (fun ls hl => ?_)
  obtain ⟨n5, en5, h⟩ := ok_n h
  refine lv_iinc (v := n5) (lv' := [(4, .int n5), (3, .int t0), (0, .long x0), (2, .int x2)]) hx hb d_Mo_isWrong_60 hl (k := 3) rfl (by rw [en5]; rfl) (by decide) rfl (fun ls hl => ?_)
  refine lv_goto (tgt := 23) hx hb d_Mo_isWrong_63 (by decide) ?_
  exact hi23 (x0, x2, t0, n5) h H locs ls hw (lv_sub hl [2, 3, 1, 0] rfl)
set_option maxHeartbeats 4000000 in
set_option maxRecDepth 100000 in
theorem w_Mo_isWrong_54 {p : Program} {l : Launch} {e : Env} {s : State} {m : MethodId} {args : Array Value} {below : List Frame} {meth : Method} {c : Code} {D : va_G} {A : Nat → Prop} {ad : Nat → Nat} {ca : Nat → ClassId} (o : Int32) (C0 : z_cx z_RMo b_Mo_isWrong 5 (some .boolean) D (z_Mt ca) A p s m args meth c) (q : z_Sg) (ih23 : Int64 × Int32 × Int32 × Int32 → Option Int32) (hi23 : ∀ a : Int64 × Int32 × Int32 × Int32, ih23 a = some o → ∀ (H : Heap) (locs : List Loc) (ls : Array Slot), z_wd D (z_M ad ca q) A s H locs → lv_has ls 5 [(0, .long a.1), (2, .int a.2.1), (3, .int a.2.2.1), (4, .int a.2.2.2)] → W p l e (z_rm 0 0) s m args below meth c H locs 0 0 (z_qi below D (z_Mt ca) (z_M ad ca q) A s args o) (F0 m 23 ls [])) (x0 : Int64) (x2 : Int32) (x4 : Int32) (h : k_Mo_isWrong_54 ih23 x0 x2 x4 q = some o) : ∀ (H : Heap) (locs : List Loc) (ls : Array Slot), z_wd D (z_M ad ca q) A s H locs → lv_has ls 5 [(0, .long x0), (2, .int x2), (4, .int x4)] → W p l e (z_rm 0 0) s m args below meth c H locs 0 0 (z_qi below D (z_Mt ca) (z_M ad ca q) A s args o) (F0 m 54 ls []) := by
  obtain ⟨hx, hb, hr, hlk, hml, hown, hts, hK, hA⟩ := id C0
  intro H locs ls hw hl
  refine lv_iconst (v := (1 : Int32)) hx hb d_Mo_isWrong_54 (by decide) ?_
  refine lv_goto (tgt := 59) hx hb d_Mo_isWrong_55 (by decide) ?_
  exact w_Mo_isWrong_59 o C0 q ih23 hi23 x0 x2 x4 (1 : Int32) h H locs ls hw (lv_sub hl [0, 1, 2] rfl)
set_option maxHeartbeats 4000000 in
set_option maxRecDepth 100000 in
theorem w_Mo_isWrong_50 {p : Program} {l : Launch} {e : Env} {s : State} {m : MethodId} {args : Array Value} {below : List Frame} {meth : Method} {c : Code} {D : va_G} {A : Nat → Prop} {ad : Nat → Nat} {ca : Nat → ClassId} (o : Int32) (C0 : z_cx z_RMo b_Mo_isWrong 5 (some .boolean) D (z_Mt ca) A p s m args meth c) (q : z_Sg) (ih23 : Int64 × Int32 × Int32 × Int32 → Option Int32) (hi23 : ∀ a : Int64 × Int32 × Int32 × Int32, ih23 a = some o → ∀ (H : Heap) (locs : List Loc) (ls : Array Slot), z_wd D (z_M ad ca q) A s H locs → lv_has ls 5 [(0, .long a.1), (2, .int a.2.1), (3, .int a.2.2.1), (4, .int a.2.2.2)] → W p l e (z_rm 0 0) s m args below meth c H locs 0 0 (z_qi below D (z_Mt ca) (z_M ad ca q) A s args o) (F0 m 23 ls [])) (x0 : Int64) (x2 : Int32) (x4 : Int32) (t0 : Int32) (h : k_Mo_isWrong_50 ih23 x0 x2 x4 t0 q = some o) : ∀ (H : Heap) (locs : List Loc) (ls : Array Slot), z_wd D (z_M ad ca q) A s H locs → lv_has ls 5 [(0, .long x0), (2, .int x2), (4, .int x4)] → W p l e (z_rm 0 0) s m args below meth c H locs 0 0 (z_qi below D (z_Mt ca) (z_M ad ca q) A s args o) (F0 m 50 ls [.int t0]) := by
  obtain ⟨hx, hb, hr, hlk, hml, hown, hts, hK, hA⟩ := id C0
  intro H locs ls hw hl
  refine lv_iload_n hx hb d_Mo_isWrong_50 rfl (lv_at hl 1 rfl) ?_
  refine lv_icmp_eq (tgt := 58) hx hb d_Mo_isWrong_51 (by decide) (fun c7 => ?_) (fun c7 => ?_)
  · have h := ok_t h c7
    refine lv_iconst (v := (0 : Int32)) hx hb d_Mo_isWrong_58 (by decide) ?_
    exact w_Mo_isWrong_59 o C0 q ih23 hi23 x0 x2 x4 (0 : Int32) h H locs ls hw (lv_sub hl [0, 1, 2] rfl)
  · have h := ok_f h c7
    exact w_Mo_isWrong_54 o C0 q ih23 hi23 x0 x2 x4 h H locs ls hw (lv_sub hl [0, 1, 2] rfl)
set_option maxHeartbeats 4000000 in
set_option maxRecDepth 100000 in
theorem wb_Mo_isWrong_23 {p : Program} {l : Launch} {e : Env} {s : State} {m : MethodId} {args : Array Value} {below : List Frame} {meth : Method} {c : Code} {D : va_G} {A : Nat → Prop} {ad : Nat → Nat} {ca : Nat → ClassId} (o : Int32) (C0 : z_cx z_RMo b_Mo_isWrong 5 (some .boolean) D (z_Mt ca) A p s m args meth c) (q : z_Sg) (ih23 : Int64 × Int32 × Int32 × Int32 → Option Int32) (hi23 : ∀ a : Int64 × Int32 × Int32 × Int32, ih23 a = some o → ∀ (H : Heap) (locs : List Loc) (ls : Array Slot), z_wd D (z_M ad ca q) A s H locs → lv_has ls 5 [(0, .long a.1), (2, .int a.2.1), (3, .int a.2.2.1), (4, .int a.2.2.2)] → W p l e (z_rm 0 0) s m args below meth c H locs 0 0 (z_qi below D (z_Mt ca) (z_M ad ca q) A s args o) (F0 m 23 ls [])) (x0 : Int64) (x2 : Int32) (x3 : Int32) (x4 : Int32) (h : kb_Mo_isWrong_23 ih23 x0 x2 x3 x4 q = some o) : ∀ (H : Heap) (locs : List Loc) (ls : Array Slot), z_wd D (z_M ad ca q) A s H locs → lv_has ls 5 [(0, .long x0), (2, .int x2), (3, .int x3), (4, .int x4)] → W p l e (z_rm 0 0) s m args below meth c H locs 0 0 (z_qi below D (z_Mt ca) (z_M ad ca q) A s args o) (F0 m 23 ls []) := by
  obtain ⟨hx, hb, hr, hlk, hml, hown, hts, hK, hA⟩ := id C0
  intro H locs ls hw hl
  refine lv_iload hx hb d_Mo_isWrong_23 (lv_at hl 3 rfl) ?_
  refine lv_bipush (v := (64 : Int32)) hx hb d_Mo_isWrong_25 (by decide) ?_
  refine lv_icmp_ge (tgt := 66) hx hb d_Mo_isWrong_27 (by decide) (fun c2 => ?_) (fun c2 => ?_)
  · have h := ok_t h c2
    refine lv_iload_n hx hb d_Mo_isWrong_66 rfl (lv_at hl 2 rfl) ?_
    obtain ⟨b3, h⟩ := ok_G h
    have ho := Option.some.inj h
    subst ho
    exact z_rtz C0 hw (z_bo_n b3) d_Mo_isWrong_67
  · have h := ok_f h c2
    refine lv_iload_n hx hb d_Mo_isWrong_30 rfl (lv_at hl 2 rfl) ?_
    refine lv_if_ne (tgt := 54) hx hb d_Mo_isWrong_31 (by decide) (fun c4 => ?_) (fun c4 => ?_)
    · have h := ok_f h c4
      exact w_Mo_isWrong_54 o C0 q ih23 hi23 x0 x2 x4 h H locs ls hw (lv_sub hl [0, 1, 3] rfl)
    · have h := ok_t h c4
      refine lv_lload_n hx hb d_Mo_isWrong_34 rfl (lv_at hl 0 rfl) ?_
      refine lv_iload hx hb d_Mo_isWrong_35 (lv_at hl 3 rfl) ?_
      refine lv_lushr (v := (z_lushr x0 x4)) hx hb d_Mo_isWrong_37 rfl ?_
      refine lv_lconst (v := (1 : Int64)) hx hb d_Mo_isWrong_38 (by decide) ?_
      refine lv_land hx hb d_Mo_isWrong_39 ?_
      refine lv_lconst (v := (1 : Int64)) hx hb d_Mo_isWrong_40 (by decide) ?_
      refine W.lcmp hx hb d_Mo_isWrong_41 ?_
      refine lv_if_ne (tgt := 49) hx hb d_Mo_isWrong_42 (by decide) (fun c6 => ?_) (fun c6 => ?_)
      · have h := ok_f h (fun z => c6 ((lg_cmp_eq _ _).mpr z))
        refine lv_iconst (v := (0 : Int32)) hx hb d_Mo_isWrong_49 (by decide) ?_
        exact w_Mo_isWrong_50 o C0 q ih23 hi23 x0 x2 x4 (0 : Int32) h H locs ls hw (lv_sub hl [0, 1, 3] rfl)
      · have h := ok_t h ((lg_cmp_eq _ _).mp c6)
        refine lv_iconst (v := (1 : Int32)) hx hb d_Mo_isWrong_45 (by decide) ?_
        refine lv_goto (tgt := 50) hx hb d_Mo_isWrong_46 (by decide) ?_
        exact w_Mo_isWrong_50 o C0 q ih23 hi23 x0 x2 x4 (1 : Int32) h H locs ls hw (lv_sub hl [0, 1, 3] rfl)
theorem w_Mo_isWrong_23 {p : Program} {l : Launch} {e : Env} {s : State} {m : MethodId} {args : Array Value} {below : List Frame} {meth : Method} {c : Code} {D : va_G} {A : Nat → Prop} {ad : Nat → Nat} {ca : Nat → ClassId} (o : Int32) (C0 : z_cx z_RMo b_Mo_isWrong 5 (some .boolean) D (z_Mt ca) A p s m args meth c) (q : z_Sg) (x0 : Int64) (x2 : Int32) (x3 : Int32) (x4 : Int32) (h : k_Mo_isWrong_23 x0 x2 x3 x4 q = some o) : ∀ (H : Heap) (locs : List Loc) (ls : Array Slot), z_wd D (z_M ad ca q) A s H locs → lv_has ls 5 [(0, .long x0), (2, .int x2), (3, .int x3), (4, .int x4)] → W p l e (z_rm 0 0) s m args below meth c H locs 0 0 (z_qi below D (z_Mt ca) (z_M ad ca q) A s args o) (F0 m 23 ls []) := by
  have key : ∀ (n : Nat) (a : Int64 × Int32 × Int32 × Int32), z_lo (fun ih23 a => kb_Mo_isWrong_23 ih23 a.1 a.2.1 a.2.2.1 a.2.2.2 q) n a = some o → ∀ (H : Heap) (locs : List Loc) (ls : Array Slot), z_wd D (z_M ad ca q) A s H locs → lv_has ls 5 [(0, .long a.1), (2, .int a.2.1), (3, .int a.2.2.1), (4, .int a.2.2.2)] → W p l e (z_rm 0 0) s m args below meth c H locs 0 0 (z_qi below D (z_Mt ca) (z_M ad ca q) A s args o) (F0 m 23 ls []) := by
    intro n
    induction n with
    | zero => intro a h; cases h
    | succ n ih => exact fun a h => wb_Mo_isWrong_23 o C0 q (z_lo (fun ih23 a => kb_Mo_isWrong_23 ih23 a.1 a.2.1 a.2.2.1 a.2.2.2 q) n) ih a.1 a.2.1 a.2.2.1 a.2.2.2 h
  exact key 2000 (x0, x2, x3, x4) h
set_option maxHeartbeats 4000000 in
set_option maxRecDepth 100000 in
theorem w_Mo_isWrong_16 {p : Program} {l : Launch} {e : Env} {s : State} {m : MethodId} {args : Array Value} {below : List Frame} {meth : Method} {c : Code} {D : va_G} {A : Nat → Prop} {ad : Nat → Nat} {ca : Nat → ClassId} (o : Int32) (C0 : z_cx z_RMo b_Mo_isWrong 5 (some .boolean) D (z_Mt ca) A p s m args meth c) (q : z_Sg) (x0 : Int64) (t0 : Int32) (h : k_Mo_isWrong_16 x0 t0 q = some o) : ∀ (H : Heap) (locs : List Loc) (ls : Array Slot), z_wd D (z_M ad ca q) A s H locs → lv_has ls 5 [(0, .long x0)] → W p l e (z_rm 0 0) s m args below meth c H locs 0 0 (z_qi below D (z_Mt ca) (z_M ad ca q) A s args o) (F0 m 16 ls [.int t0]) := by
  obtain ⟨hx, hb, hr, hlk, hml, hown, hts, hK, hA⟩ := id C0
  intro H locs ls hw hl
  refine lv_istore_n (lv' := [(2, .int t0), (0, .long x0)]) hx hb d_Mo_isWrong_16 rfl hl (by decide) rfl (fun ls hl => ?_)
  refine lv_iconst (v := (0 : Int32)) hx hb d_Mo_isWrong_17 (by decide) ?_
  refine lv_istore_n (lv' := [(3, .int (0 : Int32)), (2, .int t0), (0, .long x0)]) hx hb d_Mo_isWrong_18 rfl hl (by decide) rfl (fun ls hl => ?_)
  refine lv_bipush (v := (48 : Int32)) hx hb d_Mo_isWrong_19 (by decide) ?_
  refine lv_istore (lv' := [(4, .int (48 : Int32)), (3, .int (0 : Int32)), (2, .int t0), (0, .long x0)]) hx hb d_Mo_isWrong_21 hl (by decide) rfl (fun ls hl => ?_)
  exact w_Mo_isWrong_23 o C0 q x0 t0 (0 : Int32) (48 : Int32) h H locs ls hw (lv_sub hl [3, 2, 1, 0] rfl)
set_option maxHeartbeats 4000000 in
set_option maxRecDepth 100000 in
theorem c_Mo_isWrong {l : Launch} {D : va_G} {ad : Nat → Nat} {ca : Nat → ClassId} (x0 : Int64) (q : z_Sg) (o : Int32) (h : f_Mo_isWrong x0 q = some o) : z_ci l y_Mo_isWrong b_Mo_isWrong 5 (some .boolean) 0 0 D (z_Mt ca) (z_M ad ca q) (z_M ad ca q) [.long x0] o := by
  refine z_ci_of (own := z_RMo) (by decide) rfl ?_
  intro p e s m below meth c A C0 hw
  obtain ⟨hx, hb, hr, hlk, hml, hown, hts, hK, hA⟩ := id C0
  generalize hH : s.heap = H at hw ⊢
  generalize hlo : ([] : List Loc) = locs at hw ⊢
  refine z_entry (lv := [(0, .long x0)]) (Nat.le_of_ble_eq_true rfl) rfl (fun ls hl => ?_)
  unfold f_Mo_isWrong at h
  refine lv_lload_n hx hb d_Mo_isWrong_0 rfl (lv_at hl 0 rfl) ?_
  refine lv_bipush (v := (47 : Int32)) hx hb d_Mo_isWrong_1 (by decide) ?_
  refine lv_lushr (v := (z_lushr x0 (47 : Int32))) hx hb d_Mo_isWrong_3 rfl ?_
  refine lv_lconst (v := (1 : Int64)) hx hb d_Mo_isWrong_4 (by decide) ?_
  refine lv_land hx hb d_Mo_isWrong_5 ?_
  refine lv_lconst (v := (1 : Int64)) hx hb d_Mo_isWrong_6 (by decide) ?_
  refine W.lcmp hx hb d_Mo_isWrong_7 ?_
  refine lv_if_ne (tgt := 15) hx hb d_Mo_isWrong_8 (by decide) (fun c1 => ?_) (fun c1 => ?_)
  · have h := ok_f h (fun z => c1 ((lg_cmp_eq _ _).mpr z))
    refine lv_iconst (v := (0 : Int32)) hx hb d_Mo_isWrong_15 (by decide) ?_
    exact w_Mo_isWrong_16 o C0 q x0 (0 : Int32) h H locs ls hw (lv_sub hl [0] rfl)
  · have h := ok_t h ((lg_cmp_eq _ _).mp c1)
    refine lv_iconst (v := (1 : Int32)) hx hb d_Mo_isWrong_11 (by decide) ?_
    refine lv_goto (tgt := 16) hx hb d_Mo_isWrong_12 (by decide) ?_
    exact w_Mo_isWrong_16 o C0 q x0 (1 : Int32) h H locs ls hw (lv_sub hl [0] rfl)
def f_Mo_bits (x0 : Int64) (x2 : Int32) (x3 : Int32) (q : z_Sg) : Option Int64 :=
  some ((z_lushr x0 x2) &&& ((z_lshl (1 : Int64) ((x3 - x2) + (1 : Int32))) - (1 : Int64)))
set_option maxHeartbeats 4000000 in
set_option maxRecDepth 100000 in
theorem c_Mo_bits {l : Launch} {D : va_G} {ad : Nat → Nat} {ca : Nat → ClassId} (x0 : Int64) (x2 : Int32) (x3 : Int32) (q : z_Sg) (o : Int64) (h : f_Mo_bits x0 x2 x3 q = some o) : z_cl l y_Mo_bits b_Mo_bits 4 (some .long) 0 0 D (z_Mt ca) (z_M ad ca q) (z_M ad ca q) [.long x0, .int x2, .int x3] o := by
  refine z_cl_of (own := z_RMo) (by decide) rfl ?_
  intro p e s m below meth c A C0 hw
  obtain ⟨hx, hb, hr, hlk, hml, hown, hts, hK, hA⟩ := id C0
  generalize hH : s.heap = H at hw ⊢
  generalize hlo : ([] : List Loc) = locs at hw ⊢
  refine z_entry (lv := [(0, .long x0), (2, .int x2), (3, .int x3)]) (Nat.le_of_ble_eq_true rfl) rfl (fun ls hl => ?_)
  unfold f_Mo_bits at h
  refine lv_lload_n hx hb d_Mo_bits_0 rfl (lv_at hl 0 rfl) ?_
  refine lv_iload_n hx hb d_Mo_bits_1 rfl (lv_at hl 1 rfl) ?_
  refine lv_lushr (v := (z_lushr x0 x2)) hx hb d_Mo_bits_2 rfl ?_
  refine lv_lconst (v := (1 : Int64)) hx hb d_Mo_bits_3 (by decide) ?_
  refine lv_iload_n hx hb d_Mo_bits_4 rfl (lv_at hl 2 rfl) ?_
  refine lv_iload_n hx hb d_Mo_bits_5 rfl (lv_at hl 1 rfl) ?_
  refine lv_isub hx hb d_Mo_bits_6 ?_
  refine lv_iconst (v := (1 : Int32)) hx hb d_Mo_bits_7 (by decide) ?_
  refine lv_iadd hx hb d_Mo_bits_8 ?_
  refine lv_lshl (v := (z_lshl (1 : Int64) ((x3 - x2) + (1 : Int32)))) hx hb d_Mo_bits_9 rfl ?_
  refine lv_lconst (v := (1 : Int64)) hx hb d_Mo_bits_10 (by decide) ?_
  refine lv_lsub hx hb d_Mo_bits_11 ?_
  refine lv_land hx hb d_Mo_bits_12 ?_
  have ho := Option.some.inj h
  subst ho
  exact z_rtl C0 hw d_Mo_bits_13
