def k_Mo_hold_70 (q : z_Sg) : Option z_Sg :=
  some q
def kb_Mo_hold_3 (ih3 : Int64 × Int32 × Int32 × z_Sg → Option z_Sg) (x1 : Int64) (x3 : Int32) (x4 : Int32) (q : z_Sg) : Option z_Sg :=
  if x3 ≤ x4 then (k_Mo_hold_70 q) else (if (z_gI q 4) = (-1 : Int32) then (if z_bad x4 8 then none else (if z_bad (z_gI q 5) 16 then none else (z_nm (z_sM q 2 (z_gI q 5).toNatClampNeg (z_gM q 3 x4.toNatClampNeg)) (fun q5 => if z_bad (z_gI q5 5) 16 then none else (z_nm (z_sN q5 3 (z_gI q5 5).toNatClampNeg (((z_lushr x1 ((8 : Int32) * x4)) &&& (255 : Int64)).toInt32)) (fun q7 => z_nm (z_sI q7 5 ((z_gI q7 5) + (1 : Int32))) (fun q8 => z_nm (x4 + (1 : Int32)) (fun n9 => ih3 (x1, x3, n9, q8))))))))) else (k_Mo_hold_70 q))
def k_Mo_hold_3 (x1 : Int64) (x3 : Int32) (x4 : Int32) (q : z_Sg) : Option z_Sg := z_lo (fun ih3 a => kb_Mo_hold_3 ih3 a.1 a.2.1 a.2.2.1 a.2.2.2) 2000 (x1, x3, x4, q)
def f_Mo_hold (x1 : Int64) (x3 : Int32) (q : z_Sg) : Option z_Sg :=
  k_Mo_hold_3 x1 x3 (0 : Int32) q
set_option maxHeartbeats 4000000 in
set_option maxRecDepth 100000 in
theorem w_Mo_hold_70 {p : Program} {l : Launch} {e : Env} {s : State} {m : MethodId} {args : Array Value} {below : List Frame} {meth : Method} {c : Code} {D : va_G} {A : Nat → Prop} {ad : Nat → Nat} {ca : Nat → ClassId} (o : z_Sg) (C0 : z_cx z_RMo b_Mo_hold 5 none D (z_Mt ca) A p s m args meth c) (q : z_Sg) (h : k_Mo_hold_70 q = some o) : ∀ (H : Heap) (locs : List Loc) (ls : Array Slot), z_wd D (z_M ad ca q) A s H locs → lv_has ls 5 [] → W p l e (z_rm 0 0) s m args below meth c H locs 0 0 (z_qv below D (z_Mt ca) (z_M ad ca o) A s args) (F0 m 70 ls []) := by
  obtain ⟨hx, hb, hr, hlk, hml, hown, hts, hK, hA⟩ := id C0
  intro H locs ls hw hl
  have ho := Option.some.inj h
  subst ho
  exact z_rtv C0 hw d_Mo_hold_70
set_option maxHeartbeats 4000000 in
set_option maxRecDepth 100000 in
theorem wb_Mo_hold_3 {p : Program} {l : Launch} {e : Env} {s : State} {m : MethodId} {args : Array Value} {below : List Frame} {meth : Method} {c : Code} {D : va_G} {A : Nat → Prop} {ad : Nat → Nat} {ca : Nat → ClassId} (o : z_Sg) (C0 : z_cx z_RMo b_Mo_hold 5 none D (z_Mt ca) A p s m args meth c) (q : z_Sg) (ih3 : Int64 × Int32 × Int32 × z_Sg → Option z_Sg) (hi3 : ∀ a : Int64 × Int32 × Int32 × z_Sg, ih3 a = some o → ∀ (H : Heap) (locs : List Loc) (ls : Array Slot), z_wd D (z_M ad ca a.2.2.2) A s H locs → lv_has ls 5 [(0, .ref (ad 0)), (1, .long a.1), (3, .int a.2.1), (4, .int a.2.2.1)] → W p l e (z_rm 0 0) s m args below meth c H locs 0 0 (z_qv below D (z_Mt ca) (z_M ad ca o) A s args) (F0 m 3 ls [])) (x1 : Int64) (x3 : Int32) (x4 : Int32) (h : kb_Mo_hold_3 ih3 x1 x3 x4 q = some o) : ∀ (H : Heap) (locs : List Loc) (ls : Array Slot), z_wd D (z_M ad ca q) A s H locs → lv_has ls 5 [(0, .ref (ad 0)), (1, .long x1), (3, .int x3), (4, .int x4)] → W p l e (z_rm 0 0) s m args below meth c H locs 0 0 (z_qv below D (z_Mt ca) (z_M ad ca o) A s args) (F0 m 3 ls []) := by
  obtain ⟨hx, hb, hr, hlk, hml, hown, hts, hK, hA⟩ := id C0
  intro H locs ls hw hl
  refine lv_iload hx hb d_Mo_hold_3 (lv_at hl 3 rfl) ?_
  refine lv_iload_n hx hb d_Mo_hold_5 rfl (lv_at hl 2 rfl) ?_
  refine lv_icmp_ge (tgt := 70) hx hb d_Mo_hold_6 (by decide) (fun c1 => ?_) (fun c1 => ?_)
  · have h := ok_t h c1
    exact w_Mo_hold_70 o C0 q h H locs ls hw (lv_sub hl [] rfl)
  · have h := ok_f h c1
    refine lv_aload_n hx hb d_Mo_hold_9 rfl (lv_at hl 0 rfl) ?_
    refine gfM_0_refused C0 hw fl_Mo_28 d_Mo_hold_10 ?_
    refine lv_iconst (v := (-1 : Int32)) hx hb d_Mo_hold_13 (by decide) ?_
    refine lv_icmp_ne (tgt := 70) hx hb d_Mo_hold_14 (by decide) (fun c2 => ?_) (fun c2 => ?_)
    · have h := ok_f h c2
      exact w_Mo_hold_70 o C0 q h H locs ls hw (lv_sub hl [] rfl)
    · have h := ok_t h c2
      refine lv_aload_n hx hb d_Mo_hold_17 rfl (lv_at hl 0 rfl) ?_
      refine gfM_0_waitAt C0 hw fl_Mo_32 d_Mo_hold_18 ?_
      refine lv_aload_n hx hb d_Mo_hold_21 rfl (lv_at hl 0 rfl) ?_
      refine gfM_0_waits C0 hw fl_Mo_103 d_Mo_hold_22 ?_
      refine lv_aload_n hx hb d_Mo_hold_25 rfl (lv_at hl 0 rfl) ?_
      refine gfM_0_lies C0 hw fl_Mo_39 d_Mo_hold_26 ?_
      refine lv_iload hx hb d_Mo_hold_29 (lv_at hl 3 rfl) ?_
      obtain ⟨b3, h⟩ := ok_g h
      refine alM_8 C0 hw b3 d_Mo_hold_31 ?_
      obtain ⟨b4, h⟩ := ok_g h
      refine asM_6 C0 hw b4 d_Mo_hold_32 (fun H locs hw => ?_)
      obtain ⟨q5, eq5, h⟩ := ok_n h
      rw [← eq5] at hw
      refine lv_aload_n hx hb d_Mo_hold_33 rfl (lv_at hl 0 rfl) ?_
      refine gfM_0_waitByte C0 hw fl_Mo_35 d_Mo_hold_34 ?_
      refine lv_aload_n hx hb d_Mo_hold_37 rfl (lv_at hl 0 rfl) ?_
      refine gfM_0_waits C0 hw fl_Mo_103 d_Mo_hold_38 ?_
      refine lv_lload_n hx hb d_Mo_hold_41 rfl (lv_at hl 1 rfl) ?_
      refine lv_bipush (v := (8 : Int32)) hx hb d_Mo_hold_42 (by decide) ?_
      refine lv_iload hx hb d_Mo_hold_44 (lv_at hl 3 rfl) ?_
      refine lv_imul hx hb d_Mo_hold_46 ?_
      refine lv_lushr (v := (z_lushr x1 ((8 : Int32) * x4))) hx hb d_Mo_hold_47 rfl ?_
      refine lv_ldc2 (own := z_RMo) hx hb hown (hts _ kl_Mo_106) d_Mo_hold_48 ?_
      refine lv_land hx hb d_Mo_hold_51 ?_
      refine lv_l2i hx hb d_Mo_hold_52 rfl ?_
      obtain ⟨b6, h⟩ := ok_g h
      refine asM_7 C0 hw b6 d_Mo_hold_53 (fun H locs hw => ?_)
      obtain ⟨q7, eq7, h⟩ := ok_n h
      rw [← eq7] at hw
      refine lv_aload_n hx hb d_Mo_hold_54 rfl (lv_at hl 0 rfl) ?_
      refine lv_dup hx hb d_Mo_hold_55 rfl ?_
      refine gfM_0_waits C0 hw fl_Mo_103 d_Mo_hold_56 ?_
      refine lv_iconst (v := (1 : Int32)) hx hb d_Mo_hold_59 (by decide) ?_
      refine lv_iadd hx hb d_Mo_hold_60 ?_
      refine pfM_0_waits C0 hw fl_Mo_103 d_Mo_hold_61 (fun H locs hw => ?_)
      obtain ⟨q8, eq8, h⟩ := ok_n h
      rw [← eq8] at hw
      obtain ⟨n9, en9, h⟩ := ok_n h
      refine lv_iinc (v := n9) (lv' := [(4, .int n9), (0, .ref (ad 0)), (1, .long x1), (3, .int x3)]) hx hb d_Mo_hold_64 hl (k := 3) rfl (by rw [en9]; rfl) (by decide) rfl (fun ls hl => ?_)
      refine lv_goto (tgt := 3) hx hb d_Mo_hold_67 (by decide) ?_
      exact hi3 (x1, x3, n9, q8) h H locs ls hw (lv_sub hl [1, 2, 3, 0] rfl)
theorem w_Mo_hold_3 {p : Program} {l : Launch} {e : Env} {s : State} {m : MethodId} {args : Array Value} {below : List Frame} {meth : Method} {c : Code} {D : va_G} {A : Nat → Prop} {ad : Nat → Nat} {ca : Nat → ClassId} (o : z_Sg) (C0 : z_cx z_RMo b_Mo_hold 5 none D (z_Mt ca) A p s m args meth c) (q : z_Sg) (x1 : Int64) (x3 : Int32) (x4 : Int32) (h : k_Mo_hold_3 x1 x3 x4 q = some o) : ∀ (H : Heap) (locs : List Loc) (ls : Array Slot), z_wd D (z_M ad ca q) A s H locs → lv_has ls 5 [(0, .ref (ad 0)), (1, .long x1), (3, .int x3), (4, .int x4)] → W p l e (z_rm 0 0) s m args below meth c H locs 0 0 (z_qv below D (z_Mt ca) (z_M ad ca o) A s args) (F0 m 3 ls []) := by
  have key : ∀ (n : Nat) (a : Int64 × Int32 × Int32 × z_Sg), z_lo (fun ih3 a => kb_Mo_hold_3 ih3 a.1 a.2.1 a.2.2.1 a.2.2.2) n a = some o → ∀ (H : Heap) (locs : List Loc) (ls : Array Slot), z_wd D (z_M ad ca a.2.2.2) A s H locs → lv_has ls 5 [(0, .ref (ad 0)), (1, .long a.1), (3, .int a.2.1), (4, .int a.2.2.1)] → W p l e (z_rm 0 0) s m args below meth c H locs 0 0 (z_qv below D (z_Mt ca) (z_M ad ca o) A s args) (F0 m 3 ls []) := by
    intro n
    induction n with
    | zero => intro a h; cases h
    | succ n ih => exact fun a h => wb_Mo_hold_3 o C0 a.2.2.2 (z_lo (fun ih3 a => kb_Mo_hold_3 ih3 a.1 a.2.1 a.2.2.1 a.2.2.2) n) ih a.1 a.2.1 a.2.2.1 h
  exact key 2000 (x1, x3, x4, q) h
set_option maxHeartbeats 4000000 in
set_option maxRecDepth 100000 in
theorem c_Mo_hold {l : Launch} {D : va_G} {ad : Nat → Nat} {ca : Nat → ClassId} (x1 : Int64) (x3 : Int32) (q : z_Sg) (o : z_Sg) (h : f_Mo_hold x1 x3 q = some o) : z_cv l y_Mo_hold b_Mo_hold 5 none 0 0 D (z_Mt ca) (z_M ad ca q) (z_M ad ca o) [.ref (ad 0), .long x1, .int x3] := by
  refine z_cv_of (own := z_RMo) (by decide) rfl ?_
  intro p e s m below meth c A C0 hw
  obtain ⟨hx, hb, hr, hlk, hml, hown, hts, hK, hA⟩ := id C0
  generalize hH : s.heap = H at hw ⊢
  generalize hlo : ([] : List Loc) = locs at hw ⊢
  refine z_entry (lv := [(0, .ref (ad 0)), (1, .long x1), (3, .int x3)]) (Nat.le_of_ble_eq_true rfl) rfl (fun ls hl => ?_)
  unfold f_Mo_hold at h
  refine lv_iconst (v := (0 : Int32)) hx hb d_Mo_hold_0 (by decide) ?_
  refine lv_istore (lv' := [(4, .int (0 : Int32)), (0, .ref (ad 0)), (1, .long x1), (3, .int x3)]) hx hb d_Mo_hold_1 hl (by decide) rfl (fun ls hl => ?_)
  exact w_Mo_hold_3 o C0 q x1 x3 (0 : Int32) h H locs ls hw (lv_sub hl [1, 2, 3, 0] rfl)
def k_Mo_put8_99 (q : z_Sg) : Option z_Sg :=
  some q
def f_Mo_put8 (x1 : Int32) (x2 : Int32) (x3 : Int64) (q : z_Sg) : Option z_Sg :=
  if (z_gI q 4) = (-1 : Int32) then ((f_Mo_isHigh x1 x2 q).bind (fun r2 => if r2 = 0 then (if x2 ≤ (3 : Int32) then (if z_bad x1 16 then none else ((f_Mo_lowest (-1 : Int64) x2 q).bind (fun r6 => (f_Mo_lowest x3 x2 q).bind (fun r7 => if z_bad x1 16 then none else (z_nm (z_sM q 0 x1.toNatClampNeg (((z_gM q 0 x1.toNatClampNeg) &&& (r6 ^^^ (-1 : Int64))) ||| r7)) (fun q9 => k_Mo_put8_99 q9)))))) else ((f_Mo_lowest x3 x2 q).bind (fun r10 => if z_bad x1 16 then none else (z_nm (z_sM q 0 x1.toNatClampNeg r10) (fun q12 => k_Mo_put8_99 q12))))) else (if z_bad (x1 - (4 : Int32)) 16 then none else ((f_Mo_lowest x3 (1 : Int32) q).bind (fun r14 => if z_bad (x1 - (4 : Int32)) 16 then none else (z_nm (z_sM q 0 (x1 - (4 : Int32)).toNatClampNeg (((z_gM q 0 (x1 - (4 : Int32)).toNatClampNeg) &&& (-65281 : Int64)) ||| (z_lshl r14 (8 : Int32)))) (fun q16 => k_Mo_put8_99 q16))))))) else (some q)
set_option maxHeartbeats 4000000 in
set_option maxRecDepth 100000 in
theorem w_Mo_put8_99 {p : Program} {l : Launch} {e : Env} {s : State} {m : MethodId} {args : Array Value} {below : List Frame} {meth : Method} {c : Code} {D : va_G} {A : Nat → Prop} {ad : Nat → Nat} {ca : Nat → ClassId} (o : z_Sg) (C0 : z_cx z_RMo b_Mo_put8 5 none D (z_Mt ca) A p s m args meth c) (q : z_Sg) (h : k_Mo_put8_99 q = some o) : ∀ (H : Heap) (locs : List Loc) (ls : Array Slot), z_wd D (z_M ad ca q) A s H locs → lv_has ls 5 [] → W p l e (z_rm 1 25) s m args below meth c H locs 0 0 (z_qv below D (z_Mt ca) (z_M ad ca o) A s args) (F0 m 99 ls []) := by
  obtain ⟨hx, hb, hr, hlk, hml, hown, hts, hK, hA⟩ := id C0
  intro H locs ls hw hl
  have ho := Option.some.inj h
  subst ho
  exact z_rtv C0 hw d_Mo_put8_99
set_option maxHeartbeats 4000000 in
set_option maxRecDepth 100000 in
theorem c_Mo_put8 {l : Launch} {D : va_G} {ad : Nat → Nat} {ca : Nat → ClassId} (x1 : Int32) (x2 : Int32) (x3 : Int64) (q : z_Sg) (o : z_Sg) (h : f_Mo_put8 x1 x2 x3 q = some o) : z_cv l y_Mo_put8 b_Mo_put8 5 none 1 25 D (z_Mt ca) (z_M ad ca q) (z_M ad ca o) [.ref (ad 0), .int x1, .int x2, .long x3] := by
  refine z_cv_of (own := z_RMo) (by decide) rfl ?_
  intro p e s m below meth c A C0 hw
  obtain ⟨hx, hb, hr, hlk, hml, hown, hts, hK, hA⟩ := id C0
  generalize hH : s.heap = H at hw ⊢
  generalize hlo : ([] : List Loc) = locs at hw ⊢
  refine z_entry (lv := [(0, .ref (ad 0)), (1, .int x1), (2, .int x2), (3, .long x3)]) (Nat.le_of_ble_eq_true rfl) rfl (fun ls hl => ?_)
  unfold f_Mo_put8 at h
  refine lv_aload_n hx hb d_Mo_put8_0 rfl (lv_at hl 0 rfl) ?_
  refine gfM_0_refused C0 hw fl_Mo_28 d_Mo_put8_1 ?_
  refine lv_iconst (v := (-1 : Int32)) hx hb d_Mo_put8_4 (by decide) ?_
  refine lv_icmp_eq (tgt := 9) hx hb d_Mo_put8_5 (by decide) (fun c1 => ?_) (fun c1 => ?_)
  · have h := ok_t h c1
    refine lv_aload_n hx hb d_Mo_put8_9 rfl (lv_at hl 0 rfl) ?_
    refine lv_iload_n hx hb d_Mo_put8_10 rfl (lv_at hl 1 rfl) ?_
    refine lv_iload_n hx hb d_Mo_put8_11 rfl (lv_at hl 2 rfl) ?_
    obtain ⟨r2, er2, h⟩ := ok_b h
    refine z_vi (rest := []) C0 hw (c_Mo_isHigh x1 x2 q r2 er2) mw_Mo_isHigh ml_Mo_176 0 rfl ⟨Nat.le_of_ble_eq_true rfl, Nat.le_of_ble_eq_true rfl⟩ ⟨Nat.le_refl 0, Nat.le_refl 0⟩ rfl hl.1 rfl (Nat.le_of_ble_eq_true rfl) d_Mo_put8_12 (fun H locs hw => ?_)
    refine lv_if_eq (tgt := 50) hx hb d_Mo_put8_15 (by decide) (fun c3 => ?_) (fun c3 => ?_)
    · have h := ok_t h c3
      refine lv_iload_n hx hb d_Mo_put8_50 rfl (lv_at hl 2 rfl) ?_
      refine lv_iconst (v := (3 : Int32)) hx hb d_Mo_put8_51 (by decide) ?_
      refine lv_icmp_le (tgt := 69) hx hb d_Mo_put8_52 (by decide) (fun c4 => ?_) (fun c4 => ?_)
      · have h := ok_t h c4
        refine lv_aload_n hx hb d_Mo_put8_69 rfl (lv_at hl 0 rfl) ?_
        refine gfM_0_r C0 hw fl_Mo_14 d_Mo_put8_70 ?_
        refine lv_iload_n hx hb d_Mo_put8_73 rfl (lv_at hl 1 rfl) ?_
        refine lv_aload_n hx hb d_Mo_put8_74 rfl (lv_at hl 0 rfl) ?_
        refine gfM_0_r C0 hw fl_Mo_14 d_Mo_put8_75 ?_
        refine lv_iload_n hx hb d_Mo_put8_78 rfl (lv_at hl 1 rfl) ?_
        obtain ⟨b5, h⟩ := ok_g h
        refine alM_2 C0 hw b5 d_Mo_put8_79 ?_
        refine lv_ldc2 (own := z_RMo) hx hb hown (hts _ kl_Mo_71) d_Mo_put8_80 ?_
        refine lv_iload_n hx hb d_Mo_put8_83 rfl (lv_at hl 2 rfl) ?_
        obtain ⟨r6, er6, h⟩ := ok_b h
        refine z_sl (rest := [.long (z_gM q 0 x1.toNatClampNeg), .int x1, .ref (ad 2)]) C0 hw (c_Mo_lowest (-1 : Int64) x2 q r6 er6) mw_Mo_lowest ml_Mo_180 ⟨Nat.le_of_ble_eq_true rfl, Nat.le_of_ble_eq_true rfl⟩ ⟨Nat.le_refl 0, Nat.le_refl 0⟩ rfl hl.1 rfl (Nat.le_of_ble_eq_true rfl) d_Mo_put8_84 (fun H locs hw => ?_)
        refine lv_ldc2 (own := z_RMo) hx hb hown (hts _ kl_Mo_71) d_Mo_put8_87 ?_
        refine lv_lxor hx hb d_Mo_put8_90 ?_
        refine lv_land hx hb d_Mo_put8_91 ?_
        refine lv_lload_n hx hb d_Mo_put8_92 rfl (lv_at hl 3 rfl) ?_
        refine lv_iload_n hx hb d_Mo_put8_93 rfl (lv_at hl 2 rfl) ?_
        obtain ⟨r7, er7, h⟩ := ok_b h
        refine z_sl (rest := [.long ((z_gM q 0 x1.toNatClampNeg) &&& (r6 ^^^ (-1 : Int64))), .int x1, .ref (ad 2)]) C0 hw (c_Mo_lowest x3 x2 q r7 er7) mw_Mo_lowest ml_Mo_180 ⟨Nat.le_of_ble_eq_true rfl, Nat.le_of_ble_eq_true rfl⟩ ⟨Nat.le_refl 0, Nat.le_refl 0⟩ rfl hl.1 rfl (Nat.le_of_ble_eq_true rfl) d_Mo_put8_94 (fun H locs hw => ?_)
        refine lv_lor hx hb d_Mo_put8_97 ?_
        obtain ⟨b8, h⟩ := ok_g h
        refine asM_2 C0 hw b8 d_Mo_put8_98 (fun H locs hw => ?_)
        obtain ⟨q9, eq9, h⟩ := ok_n h
        rw [← eq9] at hw
        exact w_Mo_put8_99 o C0 q9 h H locs ls hw (lv_sub hl [] rfl)
      · have h := ok_f h c4
        refine lv_aload_n hx hb d_Mo_put8_55 rfl (lv_at hl 0 rfl) ?_
        refine gfM_0_r C0 hw fl_Mo_14 d_Mo_put8_56 ?_
        refine lv_iload_n hx hb d_Mo_put8_59 rfl (lv_at hl 1 rfl) ?_
        refine lv_lload_n hx hb d_Mo_put8_60 rfl (lv_at hl 3 rfl) ?_
        refine lv_iload_n hx hb d_Mo_put8_61 rfl (lv_at hl 2 rfl) ?_
        obtain ⟨r10, er10, h⟩ := ok_b h
        refine z_sl (rest := [.int x1, .ref (ad 2)]) C0 hw (c_Mo_lowest x3 x2 q r10 er10) mw_Mo_lowest ml_Mo_180 ⟨Nat.le_of_ble_eq_true rfl, Nat.le_of_ble_eq_true rfl⟩ ⟨Nat.le_refl 0, Nat.le_refl 0⟩ rfl hl.1 rfl (Nat.le_of_ble_eq_true rfl) d_Mo_put8_62 (fun H locs hw => ?_)
        obtain ⟨b11, h⟩ := ok_g h
        refine asM_2 C0 hw b11 d_Mo_put8_65 (fun H locs hw => ?_)
        obtain ⟨q12, eq12, h⟩ := ok_n h
        rw [← eq12] at hw
        refine lv_goto (tgt := 99) hx hb d_Mo_put8_66 (by decide) ?_
        exact w_Mo_put8_99 o C0 q12 h H locs ls hw (lv_sub hl [] rfl)
    · have h := ok_f h c3
      refine lv_aload_n hx hb d_Mo_put8_18 rfl (lv_at hl 0 rfl) ?_
      refine gfM_0_r C0 hw fl_Mo_14 d_Mo_put8_19 ?_
      refine lv_iload_n hx hb d_Mo_put8_22 rfl (lv_at hl 1 rfl) ?_
      refine lv_iconst (v := (4 : Int32)) hx hb d_Mo_put8_23 (by decide) ?_
      refine lv_isub hx hb d_Mo_put8_24 ?_
      refine lv_aload_n hx hb d_Mo_put8_25 rfl (lv_at hl 0 rfl) ?_
      refine gfM_0_r C0 hw fl_Mo_14 d_Mo_put8_26 ?_
      refine lv_iload_n hx hb d_Mo_put8_29 rfl (lv_at hl 1 rfl) ?_
      refine lv_iconst (v := (4 : Int32)) hx hb d_Mo_put8_30 (by decide) ?_
      refine lv_isub hx hb d_Mo_put8_31 ?_
      obtain ⟨b13, h⟩ := ok_g h
      refine alM_2 C0 hw b13 d_Mo_put8_32 ?_
      refine lv_ldc2 (own := z_RMo) hx hb hown (hts _ kl_Mo_183) d_Mo_put8_33 ?_
      refine lv_land hx hb d_Mo_put8_36 ?_
      refine lv_lload_n hx hb d_Mo_put8_37 rfl (lv_at hl 3 rfl) ?_
      refine lv_iconst (v := (1 : Int32)) hx hb d_Mo_put8_38 (by decide) ?_
      obtain ⟨r14, er14, h⟩ := ok_b h
      refine z_sl (rest := [.long ((z_gM q 0 (x1 - (4 : Int32)).toNatClampNeg) &&& (-65281 : Int64)), .int (x1 - (4 : Int32)), .ref (ad 2)]) C0 hw (c_Mo_lowest x3 (1 : Int32) q r14 er14) mw_Mo_lowest ml_Mo_180 ⟨Nat.le_of_ble_eq_true rfl, Nat.le_of_ble_eq_true rfl⟩ ⟨Nat.le_refl 0, Nat.le_refl 0⟩ rfl hl.1 rfl (Nat.le_of_ble_eq_true rfl) d_Mo_put8_39 (fun H locs hw => ?_)
      refine lv_bipush (v := (8 : Int32)) hx hb d_Mo_put8_42 (by decide) ?_
      refine lv_lshl (v := (z_lshl r14 (8 : Int32))) hx hb d_Mo_put8_44 rfl ?_
      refine lv_lor hx hb d_Mo_put8_45 ?_
      obtain ⟨b15, h⟩ := ok_g h
      refine asM_2 C0 hw b15 d_Mo_put8_46 (fun H locs hw => ?_)
      obtain ⟨q16, eq16, h⟩ := ok_n h
      rw [← eq16] at hw
      refine lv_goto (tgt := 99) hx hb d_Mo_put8_47 (by decide) ?_
      exact w_Mo_put8_99 o C0 q16 h H locs ls hw (lv_sub hl [] rfl)
  · have h := ok_f h c1
    have ho := Option.some.inj h
    subst ho
    exact z_rtv C0 hw d_Mo_put8_8
def k_Mo_setE_33 (q : z_Sg) : Option z_Sg :=
  some q
def f_Mo_setE (x1 : Int32) (x2 : Int64) (q : z_Sg) : Option z_Sg :=
  if (z_gI q 7) = (3 : Int32) then ((f_Mo_plus (1 : Int32) q).bind (fun r3 => (f_Mo_put8 ((z_gI q 9) + r3) x1 x2 q).bind (fun r4 => k_Mo_setE_33 r4))) else ((f_Mo_hold x2 x1 q).bind (fun r2 => k_Mo_setE_33 r2))
set_option maxHeartbeats 4000000 in
set_option maxRecDepth 100000 in
theorem w_Mo_setE_33 {p : Program} {l : Launch} {e : Env} {s : State} {m : MethodId} {args : Array Value} {below : List Frame} {meth : Method} {c : Code} {D : va_G} {A : Nat → Prop} {ad : Nat → Nat} {ca : Nat → ClassId} (o : z_Sg) (C0 : z_cx z_RMo b_Mo_setE 4 none D (z_Mt ca) A p s m args meth c) (q : z_Sg) (h : k_Mo_setE_33 q = some o) : ∀ (H : Heap) (locs : List Loc) (ls : Array Slot), z_wd D (z_M ad ca q) A s H locs → lv_has ls 4 [] → W p l e (z_rm 2 49) s m args below meth c H locs 0 0 (z_qv below D (z_Mt ca) (z_M ad ca o) A s args) (F0 m 33 ls []) := by
  obtain ⟨hx, hb, hr, hlk, hml, hown, hts, hK, hA⟩ := id C0
  intro H locs ls hw hl
  have ho := Option.some.inj h
  subst ho
  exact z_rtv C0 hw d_Mo_setE_33
set_option maxHeartbeats 4000000 in
set_option maxRecDepth 100000 in
theorem c_Mo_setE {l : Launch} {D : va_G} {ad : Nat → Nat} {ca : Nat → ClassId} (x1 : Int32) (x2 : Int64) (q : z_Sg) (o : z_Sg) (h : f_Mo_setE x1 x2 q = some o) : z_cv l y_Mo_setE b_Mo_setE 4 none 2 49 D (z_Mt ca) (z_M ad ca q) (z_M ad ca o) [.ref (ad 0), .int x1, .long x2] := by
  refine z_cv_of (own := z_RMo) (by decide) rfl ?_
  intro p e s m below meth c A C0 hw
  obtain ⟨hx, hb, hr, hlk, hml, hown, hts, hK, hA⟩ := id C0
  generalize hH : s.heap = H at hw ⊢
  generalize hlo : ([] : List Loc) = locs at hw ⊢
  refine z_entry (lv := [(0, .ref (ad 0)), (1, .int x1), (2, .long x2)]) (Nat.le_of_ble_eq_true rfl) rfl (fun ls hl => ?_)
  unfold f_Mo_setE at h
  refine lv_aload_n hx hb d_Mo_setE_0 rfl (lv_at hl 0 rfl) ?_
  refine gfM_0_mod C0 hw fl_Mo_136 d_Mo_setE_1 ?_
  refine lv_iconst (v := (3 : Int32)) hx hb d_Mo_setE_4 (by decide) ?_
  refine lv_icmp_ne (tgt := 27) hx hb d_Mo_setE_5 (by decide) (fun c1 => ?_) (fun c1 => ?_)
  · have h := ok_f h c1
    refine lv_aload_n hx hb d_Mo_setE_27 rfl (lv_at hl 0 rfl) ?_
    refine lv_lload_n hx hb d_Mo_setE_28 rfl (lv_at hl 2 rfl) ?_
    refine lv_iload_n hx hb d_Mo_setE_29 rfl (lv_at hl 1 rfl) ?_
    obtain ⟨r2, er2, h⟩ := ok_b h
    refine z_vv (rest := []) C0 hw (c_Mo_hold x2 x1 q r2 er2) mw_Mo_hold ml_Mo_201 0 rfl ⟨Nat.le_of_ble_eq_true rfl, Nat.le_of_ble_eq_true rfl⟩ ⟨Nat.le_refl 0, Nat.le_refl 0⟩ rfl hl.1 rfl (Nat.le_of_ble_eq_true rfl) d_Mo_setE_30 (fun H locs hw => ?_)
    exact w_Mo_setE_33 o C0 r2 h H locs ls hw (lv_sub hl [] rfl)
  · have h := ok_t h c1
    refine lv_aload_n hx hb d_Mo_setE_8 rfl (lv_at hl 0 rfl) ?_
    refine lv_aload_n hx hb d_Mo_setE_9 rfl (lv_at hl 0 rfl) ?_
    refine gfM_0_rm C0 hw fl_Mo_142 d_Mo_setE_10 ?_
    refine lv_aload_n hx hb d_Mo_setE_13 rfl (lv_at hl 0 rfl) ?_
    refine lv_iconst (v := (1 : Int32)) hx hb d_Mo_setE_14 (by decide) ?_
    obtain ⟨r3, er3, h⟩ := ok_b h
    refine z_vi (rest := [.int (z_gI q 9), .ref (ad 0)]) C0 hw (c_Mo_plus (1 : Int32) q r3 er3) mw_Mo_plus ml_Mo_157 0 rfl ⟨Nat.le_of_ble_eq_true rfl, Nat.le_of_ble_eq_true rfl⟩ ⟨Nat.le_refl 0, Nat.le_refl 0⟩ rfl hl.1 rfl (Nat.le_of_ble_eq_true rfl) d_Mo_setE_15 (fun H locs hw => ?_)
    refine lv_iadd hx hb d_Mo_setE_18 ?_
    refine lv_iload_n hx hb d_Mo_setE_19 rfl (lv_at hl 1 rfl) ?_
    refine lv_lload_n hx hb d_Mo_setE_20 rfl (lv_at hl 2 rfl) ?_
    obtain ⟨r4, er4, h⟩ := ok_b h
    refine z_vv (rest := []) C0 hw (c_Mo_put8 ((z_gI q 9) + r3) x1 x2 q r4 er4) mw_Mo_put8 ml_Mo_189 0 rfl ⟨Nat.le_of_ble_eq_true rfl, Nat.le_of_ble_eq_true rfl⟩ ⟨Nat.le_refl 0, Nat.le_refl 0⟩ rfl hl.1 rfl (Nat.le_of_ble_eq_true rfl) d_Mo_setE_21 (fun H locs hw => ?_)
    refine lv_goto (tgt := 33) hx hb d_Mo_setE_24 (by decide) ?_
    exact w_Mo_setE_33 o C0 r4 h H locs ls hw (lv_sub hl [] rfl)
def k_Mo_group_75 (q : z_Sg) : Option z_Sg :=
  some q
def k_Mo_group_49 (x2 : Int32) (x3 : Int64) (t1 : Int32) (t3 : Int32) (t4 : Int32) (q : z_Sg) : Option z_Sg :=
  (f_Mo_e t3 t4 q).bind (fun r7 => (f_Mo_reckon t1 r7.1 x3 x2 r7.2).bind (fun r8 => if (z_gI r8.2 8) = (7 : Int32) then (k_Mo_group_75 r8.2) else ((f_Mo_setE x2 r8.1 r8.2).bind (fun r10 => k_Mo_group_75 r10))))
def k_Mo_group_20 (x2 : Int32) (t1 : Int32) (q : z_Sg) : Option z_Sg :=
  (f_Mo_number t1 q).bind (fun r4 => (f_Mo_lowest r4.1 x2 r4.2).bind (fun r5 => if (z_gI r4.2 8) = (7 : Int32) then (k_Mo_group_49 x2 r5 (z_gI r4.2 8) x2 (0 : Int32) r4.2) else (k_Mo_group_49 x2 r5 (z_gI r4.2 8) x2 (1 : Int32) r4.2)))
def f_Mo_group (x1 : Int32) (x2 : Int32) (q : z_Sg) : Option z_Sg :=
  (f_Mo_takeOperand q).bind (fun r1 => if x1 = (131 : Int32) then (k_Mo_group_20 x2 (1 : Int32) r1) else ((f_Mo_four x2 r1).bind (fun r3 => k_Mo_group_20 x2 r3 r1)))
set_option maxHeartbeats 4000000 in
set_option maxRecDepth 100000 in
theorem w_Mo_group_75 {p : Program} {l : Launch} {e : Env} {s : State} {m : MethodId} {args : Array Value} {below : List Frame} {meth : Method} {c : Code} {D : va_G} {A : Nat → Prop} {ad : Nat → Nat} {ca : Nat → ClassId} (o : z_Sg) (C0 : z_cx z_RMo b_Mo_group 7 none D (z_Mt ca) A p s m args meth c) (q : z_Sg) (h : k_Mo_group_75 q = some o) : ∀ (H : Heap) (locs : List Loc) (ls : Array Slot), z_wd D (z_M ad ca q) A s H locs → lv_has ls 7 [] → W p l e (z_rm 8 193) s m args below meth c H locs 0 0 (z_qv below D (z_Mt ca) (z_M ad ca o) A s args) (F0 m 75 ls []) := by
  obtain ⟨hx, hb, hr, hlk, hml, hown, hts, hK, hA⟩ := id C0
  intro H locs ls hw hl
  have ho := Option.some.inj h
  subst ho
  exact z_rtv C0 hw d_Mo_group_75
set_option maxHeartbeats 4000000 in
set_option maxRecDepth 100000 in
theorem w_Mo_group_49 {p : Program} {l : Launch} {e : Env} {s : State} {m : MethodId} {args : Array Value} {below : List Frame} {meth : Method} {c : Code} {D : va_G} {A : Nat → Prop} {ad : Nat → Nat} {ca : Nat → ClassId} (o : z_Sg) (C0 : z_cx z_RMo b_Mo_group 7 none D (z_Mt ca) A p s m args meth c) (q : z_Sg) (x2 : Int32) (x3 : Int64) (t1 : Int32) (t3 : Int32) (t4 : Int32) (h : k_Mo_group_49 x2 x3 t1 t3 t4 q = some o) : ∀ (H : Heap) (locs : List Loc) (ls : Array Slot), z_wd D (z_M ad ca q) A s H locs → lv_has ls 7 [(0, .ref (ad 0)), (2, .int x2), (3, .long x3)] → W p l e (z_rm 8 193) s m args below meth c H locs 0 0 (z_qv below D (z_Mt ca) (z_M ad ca o) A s args) (F0 m 49 ls [.int t4, .int t3, .ref (ad 0), .int t1, .ref (ad 0)]) := by
  obtain ⟨hx, hb, hr, hlk, hml, hown, hts, hK, hA⟩ := id C0
  intro H locs ls hw hl
  obtain ⟨r7, er7, h⟩ := ok_b h
  refine z_vl (rest := [.int t1, .ref (ad 0)]) C0 hw (c_Mo_e t3 t4 q r7 er7) mw_Mo_e ml_Mo_338 0 rfl ⟨Nat.le_of_ble_eq_true rfl, Nat.le_of_ble_eq_true rfl⟩ ⟨Nat.le_refl 0, Nat.le_refl 0⟩ rfl hl.1 rfl (Nat.le_of_ble_eq_true rfl) d_Mo_group_49 (fun H locs hw => ?_)
  refine lv_lload_n hx hb d_Mo_group_52 rfl (lv_at hl 2 rfl) ?_
  refine lv_iload_n hx hb d_Mo_group_53 rfl (lv_at hl 1 rfl) ?_
  obtain ⟨r8, er8, h⟩ := ok_b h
  refine z_vl (rest := []) C0 hw (c_Mo_reckon t1 r7.1 x3 x2 r7.2 r8 er8) mw_Mo_reckon ml_Mo_376 0 rfl ⟨Nat.le_of_ble_eq_true rfl, Nat.le_of_ble_eq_true rfl⟩ ⟨Nat.le_refl 0, Nat.le_refl 0⟩ rfl hl.1 rfl (Nat.le_of_ble_eq_true rfl) d_Mo_group_54 (fun H locs hw => ?_)
  refine lv_lstore (lv' := [(5, .long r8.1), (0, .ref (ad 0)), (2, .int x2), (3, .long x3)]) hx hb d_Mo_group_57 hl (by decide) rfl (fun ls hl => ?_)
  refine lv_aload_n hx hb d_Mo_group_59 rfl (lv_at hl 1 rfl) ?_
  refine gfM_0_reg C0 hw fl_Mo_139 d_Mo_group_60 ?_
  refine lv_bipush (v := (7 : Int32)) hx hb d_Mo_group_63 (by decide) ?_
  refine lv_icmp_eq (tgt := 75) hx hb d_Mo_group_65 (by decide) (fun c9 => ?_) (fun c9 => ?_)
  · have h := ok_t h c9
    exact w_Mo_group_75 o C0 r8.2 h H locs ls hw (lv_sub hl [] rfl)
  · have h := ok_f h c9
    refine lv_aload_n hx hb d_Mo_group_68 rfl (lv_at hl 1 rfl) ?_
    refine lv_iload_n hx hb d_Mo_group_69 rfl (lv_at hl 2 rfl) ?_
    refine lv_lload hx hb d_Mo_group_70 (lv_at hl 0 rfl) ?_
    obtain ⟨r10, er10, h⟩ := ok_b h
    refine z_vv (rest := []) C0 hw (c_Mo_setE x2 r8.1 r8.2 r10 er10) mw_Mo_setE ml_Mo_348 0 rfl ⟨Nat.le_of_ble_eq_true rfl, Nat.le_of_ble_eq_true rfl⟩ ⟨Nat.le_refl 0, Nat.le_refl 0⟩ rfl hl.1 rfl (Nat.le_of_ble_eq_true rfl) d_Mo_group_72 (fun H locs hw => ?_)
    exact w_Mo_group_75 o C0 r10 h H locs ls hw (lv_sub hl [] rfl)
set_option maxHeartbeats 4000000 in
set_option maxRecDepth 100000 in
theorem w_Mo_group_20 {p : Program} {l : Launch} {e : Env} {s : State} {m : MethodId} {args : Array Value} {below : List Frame} {meth : Method} {c : Code} {D : va_G} {A : Nat → Prop} {ad : Nat → Nat} {ca : Nat → ClassId} (o : z_Sg) (C0 : z_cx z_RMo b_Mo_group 7 none D (z_Mt ca) A p s m args meth c) (q : z_Sg) (x2 : Int32) (t1 : Int32) (h : k_Mo_group_20 x2 t1 q = some o) : ∀ (H : Heap) (locs : List Loc) (ls : Array Slot), z_wd D (z_M ad ca q) A s H locs → lv_has ls 7 [(0, .ref (ad 0)), (2, .int x2)] → W p l e (z_rm 8 193) s m args below meth c H locs 0 0 (z_qv below D (z_Mt ca) (z_M ad ca o) A s args) (F0 m 20 ls [.int t1, .ref (ad 0)]) := by
  obtain ⟨hx, hb, hr, hlk, hml, hown, hts, hK, hA⟩ := id C0
  intro H locs ls hw hl
  obtain ⟨r4, er4, h⟩ := ok_b h
  refine z_vl (rest := []) C0 hw (c_Mo_number t1 q r4 er4) mw_Mo_number ml_Mo_373 0 rfl ⟨Nat.le_of_ble_eq_true rfl, Nat.le_of_ble_eq_true rfl⟩ ⟨Nat.le_refl 0, Nat.le_refl 0⟩ rfl hl.1 rfl (Nat.le_of_ble_eq_true rfl) d_Mo_group_20 (fun H locs hw => ?_)
  refine lv_iload_n hx hb d_Mo_group_23 rfl (lv_at hl 1 rfl) ?_
  obtain ⟨r5, er5, h⟩ := ok_b h
  refine z_sl (rest := []) C0 hw (c_Mo_lowest r4.1 x2 r4.2 r5 er5) mw_Mo_lowest ml_Mo_180 ⟨Nat.le_of_ble_eq_true rfl, Nat.le_of_ble_eq_true rfl⟩ ⟨Nat.le_refl 0, Nat.le_refl 0⟩ rfl hl.1 rfl (Nat.le_of_ble_eq_true rfl) d_Mo_group_24 (fun H locs hw => ?_)
  refine lv_lstore_n (lv' := [(3, .long r5), (0, .ref (ad 0)), (2, .int x2)]) hx hb d_Mo_group_27 rfl hl (by decide) rfl (fun ls hl => ?_)
  refine lv_aload_n hx hb d_Mo_group_28 rfl (lv_at hl 1 rfl) ?_
  refine lv_aload_n hx hb d_Mo_group_29 rfl (lv_at hl 1 rfl) ?_
  refine gfM_0_reg C0 hw fl_Mo_139 d_Mo_group_30 ?_
  refine lv_aload_n hx hb d_Mo_group_33 rfl (lv_at hl 1 rfl) ?_
  refine lv_iload_n hx hb d_Mo_group_34 rfl (lv_at hl 2 rfl) ?_
  refine lv_aload_n hx hb d_Mo_group_35 rfl (lv_at hl 1 rfl) ?_
  refine gfM_0_reg C0 hw fl_Mo_139 d_Mo_group_36 ?_
  refine lv_bipush (v := (7 : Int32)) hx hb d_Mo_group_39 (by decide) ?_
  refine lv_icmp_ne (tgt := 48) hx hb d_Mo_group_41 (by decide) (fun c6 => ?_) (fun c6 => ?_)
  · have h := ok_f h c6
    refine lv_iconst (v := (1 : Int32)) hx hb d_Mo_group_48 (by decide) ?_
    exact w_Mo_group_49 o C0 r4.2 x2 r5 (z_gI r4.2 8) x2 (1 : Int32) h H locs ls hw (lv_sub hl [1, 2, 0] rfl)
  · have h := ok_t h c6
    refine lv_iconst (v := (0 : Int32)) hx hb d_Mo_group_44 (by decide) ?_
    refine lv_goto (tgt := 49) hx hb d_Mo_group_45 (by decide) ?_
    exact w_Mo_group_49 o C0 r4.2 x2 r5 (z_gI r4.2 8) x2 (0 : Int32) h H locs ls hw (lv_sub hl [1, 2, 0] rfl)
set_option maxHeartbeats 4000000 in
set_option maxRecDepth 100000 in
theorem c_Mo_group {l : Launch} {D : va_G} {ad : Nat → Nat} {ca : Nat → ClassId} (x1 : Int32) (x2 : Int32) (q : z_Sg) (o : z_Sg) (h : f_Mo_group x1 x2 q = some o) : z_cv l y_Mo_group b_Mo_group 7 none 8 193 D (z_Mt ca) (z_M ad ca q) (z_M ad ca o) [.ref (ad 0), .int x1, .int x2] := by
  refine z_cv_of (own := z_RMo) (by decide) rfl ?_
  intro p e s m below meth c A C0 hw
  obtain ⟨hx, hb, hr, hlk, hml, hown, hts, hK, hA⟩ := id C0
  generalize hH : s.heap = H at hw ⊢
  generalize hlo : ([] : List Loc) = locs at hw ⊢
  refine z_entry (lv := [(0, .ref (ad 0)), (1, .int x1), (2, .int x2)]) (Nat.le_of_ble_eq_true rfl) rfl (fun ls hl => ?_)
  unfold f_Mo_group at h
  refine lv_aload_n hx hb d_Mo_group_0 rfl (lv_at hl 0 rfl) ?_
  obtain ⟨r1, er1, h⟩ := ok_b h
  refine z_vv (rest := []) C0 hw (c_Mo_takeOperand q r1 er1) mw_Mo_takeOperand ml_Mo_335 0 rfl ⟨Nat.le_of_ble_eq_true rfl, Nat.le_of_ble_eq_true rfl⟩ ⟨Nat.le_refl 0, Nat.le_refl 0⟩ rfl hl.1 rfl (Nat.le_of_ble_eq_true rfl) d_Mo_group_1 (fun H locs hw => ?_)
  refine lv_aload_n hx hb d_Mo_group_4 rfl (lv_at hl 0 rfl) ?_
  refine lv_iload_n hx hb d_Mo_group_5 rfl (lv_at hl 1 rfl) ?_
  refine lv_sipush (v := (131 : Int32)) hx hb d_Mo_group_6 (by decide) ?_
  refine lv_icmp_ne (tgt := 16) hx hb d_Mo_group_9 (by decide) (fun c2 => ?_) (fun c2 => ?_)
  · have h := ok_f h c2
    refine lv_iload_n hx hb d_Mo_group_16 rfl (lv_at hl 2 rfl) ?_
    obtain ⟨r3, er3, h⟩ := ok_b h
    refine z_si (rest := [.ref (ad 0)]) C0 hw (c_Mo_four x2 r1 r3 er3) mw_Mo_four ml_Mo_370 ⟨Nat.le_of_ble_eq_true rfl, Nat.le_of_ble_eq_true rfl⟩ ⟨Nat.le_refl 0, Nat.le_refl 0⟩ rfl hl.1 rfl (Nat.le_of_ble_eq_true rfl) d_Mo_group_17 (fun H locs hw => ?_)
    exact w_Mo_group_20 o C0 r1 x2 r3 h H locs ls hw (lv_sub hl [0, 2] rfl)
  · have h := ok_t h c2
    refine lv_iconst (v := (1 : Int32)) hx hb d_Mo_group_12 (by decide) ?_
    refine lv_goto (tgt := 20) hx hb d_Mo_group_13 (by decide) ?_
    exact w_Mo_group_20 o C0 r1 x2 (1 : Int32) h H locs ls hw (lv_sub hl [0, 2] rfl)
def k_Mo_rightBy_37 (t0 : Int64) (t1 : Int64) (q : z_Sg) : Option (Int64 × z_Sg) :=
  some ((t0 ||| t1), q)
def k_Mo_rightBy_14 (x1 : Int64) (x3 : Int32) (x4 : Int32) (t1 : Int32) (q : z_Sg) : Option (Int64 × z_Sg) :=
  z_gd (z_bo t1) (z_nm (z_sI q 19 t1) (fun q3 => if x3 = 0 then (k_Mo_rightBy_37 (z_lushr x1 (1 : Int32)) (0 : Int64) q3) else (k_Mo_rightBy_37 (z_lushr x1 (1 : Int32)) (z_lshl (1 : Int64) (((8 : Int32) * x4) - (1 : Int32))) q3)))
def f_Mo_rightBy (x1 : Int64) (x3 : Int32) (x4 : Int32) (q : z_Sg) : Option (Int64 × z_Sg) :=
  if (x1 &&& (1 : Int64)) = (1 : Int64) then (k_Mo_rightBy_14 x1 x3 x4 (1 : Int32) q) else (k_Mo_rightBy_14 x1 x3 x4 (0 : Int32) q)
set_option maxHeartbeats 4000000 in
set_option maxRecDepth 100000 in
theorem w_Mo_rightBy_37 {p : Program} {l : Launch} {e : Env} {s : State} {m : MethodId} {args : Array Value} {below : List Frame} {meth : Method} {c : Code} {D : va_G} {A : Nat → Prop} {ad : Nat → Nat} {ca : Nat → ClassId} (o : (Int64 × z_Sg)) (C0 : z_cx z_RMo b_Mo_rightBy 5 (some .long) D (z_Mt ca) A p s m args meth c) (q : z_Sg) (t0 : Int64) (t1 : Int64) (h : k_Mo_rightBy_37 t0 t1 q = some o) : ∀ (H : Heap) (locs : List Loc) (ls : Array Slot), z_wd D (z_M ad ca q) A s H locs → lv_has ls 5 [] → W p l e (z_rm 0 0) s m args below meth c H locs 0 0 (z_ql below D (z_Mt ca) (z_M ad ca o.2) A s args o.1) (F0 m 37 ls [.long t1, .long t0]) := by
  obtain ⟨hx, hb, hr, hlk, hml, hown, hts, hK, hA⟩ := id C0
  intro H locs ls hw hl
  refine lv_lor hx hb d_Mo_rightBy_37 ?_
  have ho := Option.some.inj h
  subst ho
  exact z_rtl C0 hw d_Mo_rightBy_38
set_option maxHeartbeats 4000000 in
set_option maxRecDepth 100000 in
theorem w_Mo_rightBy_14 {p : Program} {l : Launch} {e : Env} {s : State} {m : MethodId} {args : Array Value} {below : List Frame} {meth : Method} {c : Code} {D : va_G} {A : Nat → Prop} {ad : Nat → Nat} {ca : Nat → ClassId} (o : (Int64 × z_Sg)) (C0 : z_cx z_RMo b_Mo_rightBy 5 (some .long) D (z_Mt ca) A p s m args meth c) (q : z_Sg) (x1 : Int64) (x3 : Int32) (x4 : Int32) (t1 : Int32) (h : k_Mo_rightBy_14 x1 x3 x4 t1 q = some o) : ∀ (H : Heap) (locs : List Loc) (ls : Array Slot), z_wd D (z_M ad ca q) A s H locs → lv_has ls 5 [(1, .long x1), (3, .int x3), (4, .int x4)] → W p l e (z_rm 0 0) s m args below meth c H locs 0 0 (z_ql below D (z_Mt ca) (z_M ad ca o.2) A s args o.1) (F0 m 14 ls [.int t1, .ref (ad 0)]) := by
  obtain ⟨hx, hb, hr, hlk, hml, hown, hts, hK, hA⟩ := id C0
  intro H locs ls hw hl
  obtain ⟨b2, h⟩ := ok_G h
  refine pfM_0_went C0 hw b2 fl_Mo_412 d_Mo_rightBy_14 (fun H locs hw => ?_)
  obtain ⟨q3, eq3, h⟩ := ok_n h
  rw [← eq3] at hw
  refine lv_lload_n hx hb d_Mo_rightBy_17 rfl (lv_at hl 0 rfl) ?_
  refine lv_iconst (v := (1 : Int32)) hx hb d_Mo_rightBy_18 (by decide) ?_
  refine lv_lushr (v := (z_lushr x1 (1 : Int32))) hx hb d_Mo_rightBy_19 rfl ?_
  refine lv_iload_n hx hb d_Mo_rightBy_20 rfl (lv_at hl 1 rfl) ?_
  refine lv_if_eq (tgt := 36) hx hb d_Mo_rightBy_21 (by decide) (fun c4 => ?_) (fun c4 => ?_)
  · have h := ok_t h c4
    refine lv_lconst (v := (0 : Int64)) hx hb d_Mo_rightBy_36 (by decide) ?_
    exact w_Mo_rightBy_37 o C0 q3 (z_lushr x1 (1 : Int32)) (0 : Int64) h H locs ls hw (lv_sub hl [] rfl)
  · have h := ok_f h c4
    refine lv_lconst (v := (1 : Int64)) hx hb d_Mo_rightBy_24 (by decide) ?_
    refine lv_bipush (v := (8 : Int32)) hx hb d_Mo_rightBy_25 (by decide) ?_
    refine lv_iload hx hb d_Mo_rightBy_27 (lv_at hl 2 rfl) ?_
    refine lv_imul hx hb d_Mo_rightBy_29 ?_
    refine lv_iconst (v := (1 : Int32)) hx hb d_Mo_rightBy_30 (by decide) ?_
    refine lv_isub hx hb d_Mo_rightBy_31 ?_
    refine lv_lshl (v := (z_lshl (1 : Int64) (((8 : Int32) * x4) - (1 : Int32)))) hx hb d_Mo_rightBy_32 rfl ?_
    refine lv_goto (tgt := 37) hx hb d_Mo_rightBy_33 (by decide) ?_
    exact w_Mo_rightBy_37 o C0 q3 (z_lushr x1 (1 : Int32)) (z_lshl (1 : Int64) (((8 : Int32) * x4) - (1 : Int32))) h H locs ls hw (lv_sub hl [] rfl)
set_option maxHeartbeats 4000000 in
set_option maxRecDepth 100000 in
theorem c_Mo_rightBy {l : Launch} {D : va_G} {ad : Nat → Nat} {ca : Nat → ClassId} (x1 : Int64) (x3 : Int32) (x4 : Int32) (q : z_Sg) (o : (Int64 × z_Sg)) (h : f_Mo_rightBy x1 x3 x4 q = some o) : z_cl l y_Mo_rightBy b_Mo_rightBy 5 (some .long) 0 0 D (z_Mt ca) (z_M ad ca q) (z_M ad ca o.2) [.ref (ad 0), .long x1, .int x3, .int x4] o.1 := by
  refine z_cl_of (own := z_RMo) (by decide) rfl ?_
  intro p e s m below meth c A C0 hw
  obtain ⟨hx, hb, hr, hlk, hml, hown, hts, hK, hA⟩ := id C0
  generalize hH : s.heap = H at hw ⊢
  generalize hlo : ([] : List Loc) = locs at hw ⊢
  refine z_entry (lv := [(0, .ref (ad 0)), (1, .long x1), (3, .int x3), (4, .int x4)]) (Nat.le_of_ble_eq_true rfl) rfl (fun ls hl => ?_)
  unfold f_Mo_rightBy at h
  refine lv_aload_n hx hb d_Mo_rightBy_0 rfl (lv_at hl 0 rfl) ?_
  refine lv_lload_n hx hb d_Mo_rightBy_1 rfl (lv_at hl 1 rfl) ?_
  refine lv_lconst (v := (1 : Int64)) hx hb d_Mo_rightBy_2 (by decide) ?_
  refine lv_land hx hb d_Mo_rightBy_3 ?_
  refine lv_lconst (v := (1 : Int64)) hx hb d_Mo_rightBy_4 (by decide) ?_
  refine W.lcmp hx hb d_Mo_rightBy_5 ?_
  refine lv_if_ne (tgt := 13) hx hb d_Mo_rightBy_6 (by decide) (fun c1 => ?_) (fun c1 => ?_)
  · have h := ok_f h (fun z => c1 ((lg_cmp_eq _ _).mpr z))
    refine lv_iconst (v := (0 : Int32)) hx hb d_Mo_rightBy_13 (by decide) ?_
    exact w_Mo_rightBy_14 o C0 q x1 x3 x4 (0 : Int32) h H locs ls hw (lv_sub hl [1, 2, 3] rfl)
  · have h := ok_t h ((lg_cmp_eq _ _).mp c1)
    refine lv_iconst (v := (1 : Int32)) hx hb d_Mo_rightBy_9 (by decide) ?_
    refine lv_goto (tgt := 14) hx hb d_Mo_rightBy_10 (by decide) ?_
    exact w_Mo_rightBy_14 o C0 q x1 x3 x4 (1 : Int32) h H locs ls hw (lv_sub hl [1, 2, 3] rfl)
def k_Mo_leftBy_27 (t0 : Int64) (t1 : Int64) (q : z_Sg) : Option (Int64 × z_Sg) :=
  some ((t0 ||| t1), q)
def f_Mo_leftBy (x1 : Int64) (x3 : Int32) (x4 : Int32) (q : z_Sg) : Option (Int64 × z_Sg) :=
  (f_Mo_top x1 x4 q).bind (fun r1 => z_gd (z_bo r1) (z_nm (z_sI q 19 r1) (fun q3 => (f_Mo_lowest (z_lshl x1 (1 : Int32)) x4 q3).bind (fun r4 => if x3 = 0 then (k_Mo_leftBy_27 r4 (0 : Int64) q3) else (k_Mo_leftBy_27 r4 (1 : Int64) q3)))))
set_option maxHeartbeats 4000000 in
set_option maxRecDepth 100000 in
theorem w_Mo_leftBy_27 {p : Program} {l : Launch} {e : Env} {s : State} {m : MethodId} {args : Array Value} {below : List Frame} {meth : Method} {c : Code} {D : va_G} {A : Nat → Prop} {ad : Nat → Nat} {ca : Nat → ClassId} (o : (Int64 × z_Sg)) (C0 : z_cx z_RMo b_Mo_leftBy 5 (some .long) D (z_Mt ca) A p s m args meth c) (q : z_Sg) (t0 : Int64) (t1 : Int64) (h : k_Mo_leftBy_27 t0 t1 q = some o) : ∀ (H : Heap) (locs : List Loc) (ls : Array Slot), z_wd D (z_M ad ca q) A s H locs → lv_has ls 5 [] → W p l e (z_rm 1 25) s m args below meth c H locs 0 0 (z_ql below D (z_Mt ca) (z_M ad ca o.2) A s args o.1) (F0 m 27 ls [.long t1, .long t0]) := by
  obtain ⟨hx, hb, hr, hlk, hml, hown, hts, hK, hA⟩ := id C0
  intro H locs ls hw hl
  refine lv_lor hx hb d_Mo_leftBy_27 ?_
  have ho := Option.some.inj h
  subst ho
  exact z_rtl C0 hw d_Mo_leftBy_28
set_option maxHeartbeats 4000000 in
set_option maxRecDepth 100000 in
theorem c_Mo_leftBy {l : Launch} {D : va_G} {ad : Nat → Nat} {ca : Nat → ClassId} (x1 : Int64) (x3 : Int32) (x4 : Int32) (q : z_Sg) (o : (Int64 × z_Sg)) (h : f_Mo_leftBy x1 x3 x4 q = some o) : z_cl l y_Mo_leftBy b_Mo_leftBy 5 (some .long) 1 25 D (z_Mt ca) (z_M ad ca q) (z_M ad ca o.2) [.ref (ad 0), .long x1, .int x3, .int x4] o.1 := by
  refine z_cl_of (own := z_RMo) (by decide) rfl ?_
  intro p e s m below meth c A C0 hw
  obtain ⟨hx, hb, hr, hlk, hml, hown, hts, hK, hA⟩ := id C0
  generalize hH : s.heap = H at hw ⊢
  generalize hlo : ([] : List Loc) = locs at hw ⊢
  refine z_entry (lv := [(0, .ref (ad 0)), (1, .long x1), (3, .int x3), (4, .int x4)]) (Nat.le_of_ble_eq_true rfl) rfl (fun ls hl => ?_)
  unfold f_Mo_leftBy at h
  refine lv_aload_n hx hb d_Mo_leftBy_0 rfl (lv_at hl 0 rfl) ?_
  refine lv_lload_n hx hb d_Mo_leftBy_1 rfl (lv_at hl 1 rfl) ?_
  refine lv_iload hx hb d_Mo_leftBy_2 (lv_at hl 3 rfl) ?_
  obtain ⟨r1, er1, h⟩ := ok_b h
  refine z_si (rest := [.ref (ad 0)]) C0 hw (c_Mo_top x1 x4 q r1 er1) mw_Mo_top ml_Mo_212 ⟨Nat.le_of_ble_eq_true rfl, Nat.le_of_ble_eq_true rfl⟩ ⟨Nat.le_refl 0, Nat.le_refl 0⟩ rfl hl.1 rfl (Nat.le_of_ble_eq_true rfl) d_Mo_leftBy_4 (fun H locs hw => ?_)
  obtain ⟨b2, h⟩ := ok_G h
  refine pfM_0_went C0 hw b2 fl_Mo_412 d_Mo_leftBy_7 (fun H locs hw => ?_)
  obtain ⟨q3, eq3, h⟩ := ok_n h
  rw [← eq3] at hw
  refine lv_lload_n hx hb d_Mo_leftBy_10 rfl (lv_at hl 1 rfl) ?_
  refine lv_iconst (v := (1 : Int32)) hx hb d_Mo_leftBy_11 (by decide) ?_
  refine lv_lshl (v := (z_lshl x1 (1 : Int32))) hx hb d_Mo_leftBy_12 rfl ?_
  refine lv_iload hx hb d_Mo_leftBy_13 (lv_at hl 3 rfl) ?_
  obtain ⟨r4, er4, h⟩ := ok_b h
  refine z_sl (rest := []) C0 hw (c_Mo_lowest (z_lshl x1 (1 : Int32)) x4 q3 r4 er4) mw_Mo_lowest ml_Mo_180 ⟨Nat.le_of_ble_eq_true rfl, Nat.le_of_ble_eq_true rfl⟩ ⟨Nat.le_refl 0, Nat.le_refl 0⟩ rfl hl.1 rfl (Nat.le_of_ble_eq_true rfl) d_Mo_leftBy_15 (fun H locs hw => ?_)
  refine lv_iload_n hx hb d_Mo_leftBy_18 rfl (lv_at hl 2 rfl) ?_
  refine lv_if_eq (tgt := 26) hx hb d_Mo_leftBy_19 (by decide) (fun c5 => ?_) (fun c5 => ?_)
  · have h := ok_t h c5
    refine lv_lconst (v := (0 : Int64)) hx hb d_Mo_leftBy_26 (by decide) ?_
    exact w_Mo_leftBy_27 o C0 q3 r4 (0 : Int64) h H locs ls hw (lv_sub hl [] rfl)
  · have h := ok_f h c5
    refine lv_lconst (v := (1 : Int64)) hx hb d_Mo_leftBy_22 (by decide) ?_
    refine lv_goto (tgt := 27) hx hb d_Mo_leftBy_23 (by decide) ?_
    exact w_Mo_leftBy_27 o C0 q3 r4 (1 : Int64) h H locs ls hw (lv_sub hl [] rfl)
def k_Mo_shifted_174 (x4 : Int32) (x5 : Int64) (q : z_Sg) : Option (Int64 × z_Sg) :=
  (f_Mo_leave (2 : Int32) q).bind (fun r11 => (f_Mo_result x5 x4 r11).bind (fun r12 => some (x5, r12)))
def k_Mo_shifted_162 (x3 : Int32) (x4 : Int32) (x5 : Int64) (t1 : Int32) (t2 : Int32) (q : z_Sg) : Option (Int64 × z_Sg) :=
  if z_bad t1 7 then none else (z_nm (z_sN q 1 t1.toNatClampNeg (vp_nar .boolean t2)) (fun q9 => if x3 = (1 : Int32) then (k_Mo_shifted_174 x4 x5 q9) else ((f_Mo_leave (6 : Int32) q9).bind (fun r13 => k_Mo_shifted_174 x4 x5 r13))))
def k_Mo_shifted_161 (x3 : Int32) (x4 : Int32) (x5 : Int64) (t1 : Int32) (q : z_Sg) : Option (Int64 × z_Sg) :=
  k_Mo_shifted_162 x3 x4 x5 t1 (0 : Int32) q
def k_Mo_shifted_108 (x3 : Int32) (x4 : Int32) (x5 : Int64) (x7 : Int32) (q : z_Sg) : Option (Int64 × z_Sg) :=
  if (z_gI q 8) = (4 : Int32) then ((f_Mo_top x5 x4 q).bind (fun r15 => if r15 = (z_gI q 19) then (k_Mo_shifted_162 x3 x4 x5 (6 : Int32) (0 : Int32) q) else (k_Mo_shifted_162 x3 x4 x5 (6 : Int32) (1 : Int32) q))) else (if (z_gI q 8) = (5 : Int32) then (if x7 = 0 then (k_Mo_shifted_161 x3 x4 x5 (6 : Int32) q) else (k_Mo_shifted_162 x3 x4 x5 (6 : Int32) (1 : Int32) q)) else (k_Mo_shifted_161 x3 x4 x5 (6 : Int32) q))
def k_Mo_shifted_67 (ih14 : Int32 × Int32 × Int64 × Int32 × Int32 × z_Sg → Option (Int64 × z_Sg)) (x3 : Int32) (x4 : Int32) (x7 : Int32) (x8 : Int32) (t0 : Int64) (q : z_Sg) : Option (Int64 × z_Sg) :=
  z_nm (x8 + (1 : Int32)) (fun n22 => ih14 (x3, x4, t0, x7, n22, q))
def k_Mo_shifted_62 (ih14 : Int32 × Int32 × Int64 × Int32 × Int32 × z_Sg → Option (Int64 × z_Sg)) (x3 : Int32) (x4 : Int32) (x7 : Int32) (x8 : Int32) (t1 : Int64) (t2 : Int32) (q : z_Sg) : Option (Int64 × z_Sg) :=
  (f_Mo_rightBy t1 t2 x4 q).bind (fun r21 => k_Mo_shifted_67 ih14 x3 x4 x7 x8 r21.1 r21.2)
def k_Mo_shifted_61 (ih14 : Int32 × Int32 × Int64 × Int32 × Int32 × z_Sg → Option (Int64 × z_Sg)) (x3 : Int32) (x4 : Int32) (x7 : Int32) (x8 : Int32) (t1 : Int64) (q : z_Sg) : Option (Int64 × z_Sg) :=
  k_Mo_shifted_62 ih14 x3 x4 x7 x8 t1 (0 : Int32) q
def kb_Mo_shifted_14 (ih14 : Int32 × Int32 × Int64 × Int32 × Int32 × z_Sg → Option (Int64 × z_Sg)) (x3 : Int32) (x4 : Int32) (x5 : Int64) (x7 : Int32) (x8 : Int32) (q : z_Sg) : Option (Int64 × z_Sg) :=
  if x3 ≤ x8 then (if z_bad (0 : Int32) 7 then none else (z_nm (z_sN q 1 (0 : Int32).toNatClampNeg (vp_nar .boolean (z_gI q 19))) (fun q4 => if x3 ≤ ((8 : Int32) * x4) then (k_Mo_shifted_108 x3 x4 x5 x7 q4) else (if (z_gI q4 8) = (7 : Int32) then (k_Mo_shifted_108 x3 x4 x5 x7 q4) else ((f_Mo_leave (0 : Int32) q4).bind (fun r18 => k_Mo_shifted_108 x3 x4 x5 x7 r18)))))) else (if (z_gI q 8) = (4 : Int32) then ((f_Mo_leftBy x5 (0 : Int32) x4 q).bind (fun r24 => k_Mo_shifted_67 ih14 x3 x4 x7 x8 r24.1 r24.2)) else (if (z_gI q 8) = (7 : Int32) then (if x7 = 0 then (k_Mo_shifted_61 ih14 x3 x4 x7 x8 x5 q) else (k_Mo_shifted_62 ih14 x3 x4 x7 x8 x5 (1 : Int32) q)) else (k_Mo_shifted_61 ih14 x3 x4 x7 x8 x5 q)))
def k_Mo_shifted_14 (x3 : Int32) (x4 : Int32) (x5 : Int64) (x7 : Int32) (x8 : Int32) (q : z_Sg) : Option (Int64 × z_Sg) := z_lo (fun ih14 a => kb_Mo_shifted_14 ih14 a.1 a.2.1 a.2.2.1 a.2.2.2.1 a.2.2.2.2.1 a.2.2.2.2.2) 2000 (x3, x4, x5, x7, x8, q)
def f_Mo_shifted (x1 : Int64) (x3 : Int32) (x4 : Int32) (q : z_Sg) : Option (Int64 × z_Sg) :=
  (f_Mo_top x1 x4 q).bind (fun r1 => k_Mo_shifted_14 x3 x4 x1 r1 (0 : Int32) q)
set_option maxHeartbeats 4000000 in
set_option maxRecDepth 100000 in
theorem w_Mo_shifted_174 {p : Program} {l : Launch} {e : Env} {s : State} {m : MethodId} {args : Array Value} {below : List Frame} {meth : Method} {c : Code} {D : va_G} {A : Nat → Prop} {ad : Nat → Nat} {ca : Nat → ClassId} (o : (Int64 × z_Sg)) (C0 : z_cx z_RMo b_Mo_shifted 9 (some .long) D (z_Mt ca) A p s m args meth c) (q : z_Sg) (x4 : Int32) (x5 : Int64) (h : k_Mo_shifted_174 x4 x5 q = some o) : ∀ (H : Heap) (locs : List Loc) (ls : Array Slot), z_wd D (z_M ad ca q) A s H locs → lv_has ls 9 [(0, .ref (ad 0)), (4, .int x4), (5, .long x5)] → W p l e (z_rm 2 49) s m args below meth c H locs 0 0 (z_ql below D (z_Mt ca) (z_M ad ca o.2) A s args o.1) (F0 m 174 ls []) := by
  obtain ⟨hx, hb, hr, hlk, hml, hown, hts, hK, hA⟩ := id C0
  intro H locs ls hw hl
  refine lv_aload_n hx hb d_Mo_shifted_174 rfl (lv_at hl 0 rfl) ?_
  refine lv_iconst (v := (2 : Int32)) hx hb d_Mo_shifted_175 (by decide) ?_
  obtain ⟨r11, er11, h⟩ := ok_b h
  refine z_vv (rest := []) C0 hw (c_Mo_leave (2 : Int32) q r11 er11) mw_Mo_leave ml_Mo_219 0 rfl ⟨Nat.le_of_ble_eq_true rfl, Nat.le_of_ble_eq_true rfl⟩ ⟨Nat.le_refl 0, Nat.le_refl 0⟩ rfl hl.1 rfl (Nat.le_of_ble_eq_true rfl) d_Mo_shifted_176 (fun H locs hw => ?_)
  refine lv_aload_n hx hb d_Mo_shifted_179 rfl (lv_at hl 0 rfl) ?_
  refine lv_lload hx hb d_Mo_shifted_180 (lv_at hl 2 rfl) ?_
  refine lv_iload hx hb d_Mo_shifted_182 (lv_at hl 1 rfl) ?_
  obtain ⟨r12, er12, h⟩ := ok_b h
  refine z_vv (rest := []) C0 hw (c_Mo_result x5 x4 r11 r12 er12) mw_Mo_result ml_Mo_216 0 rfl ⟨Nat.le_of_ble_eq_true rfl, Nat.le_of_ble_eq_true rfl⟩ ⟨Nat.le_refl 0, Nat.le_refl 0⟩ rfl hl.1 rfl (Nat.le_of_ble_eq_true rfl) d_Mo_shifted_184 (fun H locs hw => ?_)
  refine lv_lload hx hb d_Mo_shifted_187 (lv_at hl 2 rfl) ?_
  have ho := Option.some.inj h
  subst ho
  exact z_rtl C0 hw d_Mo_shifted_189
set_option maxHeartbeats 4000000 in
set_option maxRecDepth 100000 in
theorem w_Mo_shifted_162 {p : Program} {l : Launch} {e : Env} {s : State} {m : MethodId} {args : Array Value} {below : List Frame} {meth : Method} {c : Code} {D : va_G} {A : Nat → Prop} {ad : Nat → Nat} {ca : Nat → ClassId} (o : (Int64 × z_Sg)) (C0 : z_cx z_RMo b_Mo_shifted 9 (some .long) D (z_Mt ca) A p s m args meth c) (q : z_Sg) (x3 : Int32) (x4 : Int32) (x5 : Int64) (t1 : Int32) (t2 : Int32) (h : k_Mo_shifted_162 x3 x4 x5 t1 t2 q = some o) : ∀ (H : Heap) (locs : List Loc) (ls : Array Slot), z_wd D (z_M ad ca q) A s H locs → lv_has ls 9 [(0, .ref (ad 0)), (3, .int x3), (4, .int x4), (5, .long x5)] → W p l e (z_rm 2 49) s m args below meth c H locs 0 0 (z_ql below D (z_Mt ca) (z_M ad ca o.2) A s args o.1) (F0 m 162 ls [.int t2, .int t1, .ref (ad 4)]) := by
  obtain ⟨hx, hb, hr, hlk, hml, hown, hts, hK, hA⟩ := id C0
  intro H locs ls hw hl
  obtain ⟨b8, h⟩ := ok_g h
  refine asM_4 C0 hw b8 d_Mo_shifted_162 (fun H locs hw => ?_)
  obtain ⟨q9, eq9, h⟩ := ok_n h
  rw [← eq9] at hw
  refine lv_iload_n hx hb d_Mo_shifted_163 rfl (lv_at hl 1 rfl) ?_
  refine lv_iconst (v := (1 : Int32)) hx hb d_Mo_shifted_164 (by decide) ?_
  refine lv_icmp_eq (tgt := 174) hx hb d_Mo_shifted_165 (by decide) (fun c10 => ?_) (fun c10 => ?_)
  · have h := ok_t h c10
    exact w_Mo_shifted_174 o C0 q9 x4 x5 h H locs ls hw (lv_sub hl [0, 2, 3] rfl)
  · have h := ok_f h c10
    refine lv_aload_n hx hb d_Mo_shifted_168 rfl (lv_at hl 0 rfl) ?_
    refine lv_bipush (v := (6 : Int32)) hx hb d_Mo_shifted_169 (by decide) ?_
    obtain ⟨r13, er13, h⟩ := ok_b h
    refine z_vv (rest := []) C0 hw (c_Mo_leave (6 : Int32) q9 r13 er13) mw_Mo_leave ml_Mo_219 0 rfl ⟨Nat.le_of_ble_eq_true rfl, Nat.le_of_ble_eq_true rfl⟩ ⟨Nat.le_refl 0, Nat.le_refl 0⟩ rfl hl.1 rfl (Nat.le_of_ble_eq_true rfl) d_Mo_shifted_171 (fun H locs hw => ?_)
    exact w_Mo_shifted_174 o C0 r13 x4 x5 h H locs ls hw (lv_sub hl [0, 2, 3] rfl)
set_option maxHeartbeats 4000000 in
set_option maxRecDepth 100000 in
theorem w_Mo_shifted_161 {p : Program} {l : Launch} {e : Env} {s : State} {m : MethodId} {args : Array Value} {below : List Frame} {meth : Method} {c : Code} {D : va_G} {A : Nat → Prop} {ad : Nat → Nat} {ca : Nat → ClassId} (o : (Int64 × z_Sg)) (C0 : z_cx z_RMo b_Mo_shifted 9 (some .long) D (z_Mt ca) A p s m args meth c) (q : z_Sg) (x3 : Int32) (x4 : Int32) (x5 : Int64) (t1 : Int32) (h : k_Mo_shifted_161 x3 x4 x5 t1 q = some o) : ∀ (H : Heap) (locs : List Loc) (ls : Array Slot), z_wd D (z_M ad ca q) A s H locs → lv_has ls 9 [(0, .ref (ad 0)), (3, .int x3), (4, .int x4), (5, .long x5)] → W p l e (z_rm 2 49) s m args below meth c H locs 0 0 (z_ql below D (z_Mt ca) (z_M ad ca o.2) A s args o.1) (F0 m 161 ls [.int t1, .ref (ad 4)]) := by
  obtain ⟨hx, hb, hr, hlk, hml, hown, hts, hK, hA⟩ := id C0
  intro H locs ls hw hl
  refine lv_iconst (v := (0 : Int32)) hx hb d_Mo_shifted_161 (by decide) ?_
  exact w_Mo_shifted_162 o C0 q x3 x4 x5 t1 (0 : Int32) h H locs ls hw (lv_sub hl [0, 1, 2, 3] rfl)
set_option maxHeartbeats 4000000 in
set_option maxRecDepth 100000 in
theorem w_Mo_shifted_108 {p : Program} {l : Launch} {e : Env} {s : State} {m : MethodId} {args : Array Value} {below : List Frame} {meth : Method} {c : Code} {D : va_G} {A : Nat → Prop} {ad : Nat → Nat} {ca : Nat → ClassId} (o : (Int64 × z_Sg)) (C0 : z_cx z_RMo b_Mo_shifted 9 (some .long) D (z_Mt ca) A p s m args meth c) (q : z_Sg) (x3 : Int32) (x4 : Int32) (x5 : Int64) (x7 : Int32) (h : k_Mo_shifted_108 x3 x4 x5 x7 q = some o) : ∀ (H : Heap) (locs : List Loc) (ls : Array Slot), z_wd D (z_M ad ca q) A s H locs → lv_has ls 9 [(0, .ref (ad 0)), (3, .int x3), (4, .int x4), (5, .long x5), (7, .int x7)] → W p l e (z_rm 2 49) s m args below meth c H locs 0 0 (z_ql below D (z_Mt ca) (z_M ad ca o.2) A s args o.1) (F0 m 108 ls []) := by
  obtain ⟨hx, hb, hr, hlk, hml, hown, hts, hK, hA⟩ := id C0
  intro H locs ls hw hl
  refine lv_aload_n hx hb d_Mo_shifted_108 rfl (lv_at hl 0 rfl) ?_
  refine gfM_0_flag C0 hw fl_Mo_21 d_Mo_shifted_109 ?_
  refine lv_bipush (v := (6 : Int32)) hx hb d_Mo_shifted_112 (by decide) ?_
  refine lv_aload_n hx hb d_Mo_shifted_114 rfl (lv_at hl 0 rfl) ?_
  refine gfM_0_reg C0 hw fl_Mo_139 d_Mo_shifted_115 ?_
  refine lv_iconst (v := (4 : Int32)) hx hb d_Mo_shifted_118 (by decide) ?_
  refine lv_icmp_ne (tgt := 144) hx hb d_Mo_shifted_119 (by decide) (fun c6 => ?_) (fun c6 => ?_)
  · have h := ok_f h c6
    refine lv_aload_n hx hb d_Mo_shifted_144 rfl (lv_at hl 0 rfl) ?_
    refine gfM_0_reg C0 hw fl_Mo_139 d_Mo_shifted_145 ?_
    refine lv_iconst (v := (5 : Int32)) hx hb d_Mo_shifted_148 (by decide) ?_
    refine lv_icmp_ne (tgt := 161) hx hb d_Mo_shifted_149 (by decide) (fun c7 => ?_) (fun c7 => ?_)
    · have h := ok_f h c7
      exact w_Mo_shifted_161 o C0 q x3 x4 x5 (6 : Int32) h H locs ls hw (lv_sub hl [0, 1, 2, 3] rfl)
    · have h := ok_t h c7
      refine lv_iload hx hb d_Mo_shifted_152 (lv_at hl 4 rfl) ?_
      refine lv_if_eq (tgt := 161) hx hb d_Mo_shifted_154 (by decide) (fun c14 => ?_) (fun c14 => ?_)
      · have h := ok_t h c14
        exact w_Mo_shifted_161 o C0 q x3 x4 x5 (6 : Int32) h H locs ls hw (lv_sub hl [0, 1, 2, 3] rfl)
      · have h := ok_f h c14
        refine lv_iconst (v := (1 : Int32)) hx hb d_Mo_shifted_157 (by decide) ?_
        refine lv_goto (tgt := 162) hx hb d_Mo_shifted_158 (by decide) ?_
        exact w_Mo_shifted_162 o C0 q x3 x4 x5 (6 : Int32) (1 : Int32) h H locs ls hw (lv_sub hl [0, 1, 2, 3] rfl)
  · have h := ok_t h c6
    refine lv_lload hx hb d_Mo_shifted_122 (lv_at hl 3 rfl) ?_
    refine lv_iload hx hb d_Mo_shifted_124 (lv_at hl 2 rfl) ?_
    obtain ⟨r15, er15, h⟩ := ok_b h
    refine z_si (rest := [.int (6 : Int32), .ref (ad 4)]) C0 hw (c_Mo_top x5 x4 q r15 er15) mw_Mo_top ml_Mo_212 ⟨Nat.le_of_ble_eq_true rfl, Nat.le_of_ble_eq_true rfl⟩ ⟨Nat.le_refl 0, Nat.le_refl 0⟩ rfl hl.1 rfl (Nat.le_of_ble_eq_true rfl) d_Mo_shifted_126 (fun H locs hw => ?_)
    refine lv_aload_n hx hb d_Mo_shifted_129 rfl (lv_at hl 0 rfl) ?_
    refine gfM_0_went C0 hw fl_Mo_412 d_Mo_shifted_130 ?_
    refine lv_icmp_eq (tgt := 140) hx hb d_Mo_shifted_133 (by decide) (fun c16 => ?_) (fun c16 => ?_)
    · have h := ok_t h c16
      refine lv_iconst (v := (0 : Int32)) hx hb d_Mo_shifted_140 (by decide) ?_
      refine lv_goto (tgt := 162) hx hb d_Mo_shifted_141 (by decide) ?_
      exact w_Mo_shifted_162 o C0 q x3 x4 x5 (6 : Int32) (0 : Int32) h H locs ls hw (lv_sub hl [0, 1, 2, 3] rfl)
    · have h := ok_f h c16
      refine lv_iconst (v := (1 : Int32)) hx hb d_Mo_shifted_136 (by decide) ?_
      refine lv_goto (tgt := 162) hx hb d_Mo_shifted_137 (by decide) ?_
      exact w_Mo_shifted_162 o C0 q x3 x4 x5 (6 : Int32) (1 : Int32) h H locs ls hw (lv_sub hl [0, 1, 2, 3] rfl)
set_option maxHeartbeats 4000000 in
set_option maxRecDepth 100000 in
theorem w_Mo_shifted_67 {p : Program} {l : Launch} {e : Env} {s : State} {m : MethodId} {args : Array Value} {below : List Frame} {meth : Method} {c : Code} {D : va_G} {A : Nat → Prop} {ad : Nat → Nat} {ca : Nat → ClassId} (o : (Int64 × z_Sg)) (C0 : z_cx z_RMo b_Mo_shifted 9 (some .long) D (z_Mt ca) A p s m args meth c) (q : z_Sg) (ih14 : Int32 × Int32 × Int64 × Int32 × Int32 × z_Sg → Option (Int64 × z_Sg)) (hi14 : ∀ a : Int32 × Int32 × Int64 × Int32 × Int32 × z_Sg, ih14 a = some o → ∀ (H : Heap) (locs : List Loc) (ls : Array Slot), z_wd D (z_M ad ca a.2.2.2.2.2) A s H locs → lv_has ls 9 [(0, .ref (ad 0)), (3, .int a.1), (4, .int a.2.1), (5, .long a.2.2.1), (7, .int a.2.2.2.1), (8, .int a.2.2.2.2.1)] → W p l e (z_rm 2 49) s m args below meth c H locs 0 0 (z_ql below D (z_Mt ca) (z_M ad ca o.2) A s args o.1) (F0 m 14 ls [])) (x3 : Int32) (x4 : Int32) (x7 : Int32) (x8 : Int32) (t0 : Int64) (h : k_Mo_shifted_67 ih14 x3 x4 x7 x8 t0 q = some o) : ∀ (H : Heap) (locs : List Loc) (ls : Array Slot), z_wd D (z_M ad ca q) A s H locs → lv_has ls 9 [(0, .ref (ad 0)), (3, .int x3), (4, .int x4), (7, .int x7), (8, .int x8)] → W p l e (z_rm 2 49) s m args below meth c H locs 0 0 (z_ql below D (z_Mt ca) (z_M ad ca o.2) A s args o.1) (F0 m 67 ls [.long t0]) := by
  obtain ⟨hx, hb, hr, hlk, hml, hown, hts, hK, hA⟩ := id C0
  intro H locs ls hw hl
  refine lv_lstore (lv' := [(5, .long t0), (0, .ref (ad 0)), (3, .int x3), (4, .int x4), (7, .int x7), (8, .int x8)]) hx hb d_Mo_shifted_67 hl (by decide) rfl (fun ls hl => ?_)
  obtain ⟨n22, en22, h⟩ := ok_n h
  refine lv_iinc (v := n22) (lv' := [(8, .int n22), (5, .long t0), (0, .ref (ad 0)), (3, .int x3), (4, .int x4), (7, .int x7)]) hx hb d_Mo_shifted_69 hl (k := 5) rfl (by rw [en22]; rfl) (by decide) rfl (fun ls hl => ?_)
  refine lv_goto (tgt := 14) hx hb d_Mo_shifted_72 (by decide) ?_
  exact hi14 (x3, x4, t0, x7, n22, q) h H locs ls hw (lv_sub hl [2, 3, 4, 1, 5, 0] rfl)
set_option maxHeartbeats 4000000 in
set_option maxRecDepth 100000 in
theorem w_Mo_shifted_62 {p : Program} {l : Launch} {e : Env} {s : State} {m : MethodId} {args : Array Value} {below : List Frame} {meth : Method} {c : Code} {D : va_G} {A : Nat → Prop} {ad : Nat → Nat} {ca : Nat → ClassId} (o : (Int64 × z_Sg)) (C0 : z_cx z_RMo b_Mo_shifted 9 (some .long) D (z_Mt ca) A p s m args meth c) (q : z_Sg) (ih14 : Int32 × Int32 × Int64 × Int32 × Int32 × z_Sg → Option (Int64 × z_Sg)) (hi14 : ∀ a : Int32 × Int32 × Int64 × Int32 × Int32 × z_Sg, ih14 a = some o → ∀ (H : Heap) (locs : List Loc) (ls : Array Slot), z_wd D (z_M ad ca a.2.2.2.2.2) A s H locs → lv_has ls 9 [(0, .ref (ad 0)), (3, .int a.1), (4, .int a.2.1), (5, .long a.2.2.1), (7, .int a.2.2.2.1), (8, .int a.2.2.2.2.1)] → W p l e (z_rm 2 49) s m args below meth c H locs 0 0 (z_ql below D (z_Mt ca) (z_M ad ca o.2) A s args o.1) (F0 m 14 ls [])) (x3 : Int32) (x4 : Int32) (x7 : Int32) (x8 : Int32) (t1 : Int64) (t2 : Int32) (h : k_Mo_shifted_62 ih14 x3 x4 x7 x8 t1 t2 q = some o) : ∀ (H : Heap) (locs : List Loc) (ls : Array Slot), z_wd D (z_M ad ca q) A s H locs → lv_has ls 9 [(0, .ref (ad 0)), (3, .int x3), (4, .int x4), (7, .int x7), (8, .int x8)] → W p l e (z_rm 2 49) s m args below meth c H locs 0 0 (z_ql below D (z_Mt ca) (z_M ad ca o.2) A s args o.1) (F0 m 62 ls [.int t2, .long t1, .ref (ad 0)]) := by
  obtain ⟨hx, hb, hr, hlk, hml, hown, hts, hK, hA⟩ := id C0
  intro H locs ls hw hl
  refine lv_iload hx hb d_Mo_shifted_62 (lv_at hl 2 rfl) ?_
  obtain ⟨r21, er21, h⟩ := ok_b h
  refine z_vl (rest := []) C0 hw (c_Mo_rightBy t1 t2 x4 q r21 er21) mw_Mo_rightBy ml_Mo_419 0 rfl ⟨Nat.le_of_ble_eq_true rfl, Nat.le_of_ble_eq_true rfl⟩ ⟨Nat.le_refl 0, Nat.le_refl 0⟩ rfl hl.1 rfl (Nat.le_of_ble_eq_true rfl) d_Mo_shifted_64 (fun H locs hw => ?_)
  exact w_Mo_shifted_67 o C0 r21.2 ih14 hi14 x3 x4 x7 x8 r21.1 h H locs ls hw (lv_sub hl [0, 1, 2, 3, 4] rfl)
set_option maxHeartbeats 4000000 in
set_option maxRecDepth 100000 in
theorem w_Mo_shifted_61 {p : Program} {l : Launch} {e : Env} {s : State} {m : MethodId} {args : Array Value} {below : List Frame} {meth : Method} {c : Code} {D : va_G} {A : Nat → Prop} {ad : Nat → Nat} {ca : Nat → ClassId} (o : (Int64 × z_Sg)) (C0 : z_cx z_RMo b_Mo_shifted 9 (some .long) D (z_Mt ca) A p s m args meth c) (q : z_Sg) (ih14 : Int32 × Int32 × Int64 × Int32 × Int32 × z_Sg → Option (Int64 × z_Sg)) (hi14 : ∀ a : Int32 × Int32 × Int64 × Int32 × Int32 × z_Sg, ih14 a = some o → ∀ (H : Heap) (locs : List Loc) (ls : Array Slot), z_wd D (z_M ad ca a.2.2.2.2.2) A s H locs → lv_has ls 9 [(0, .ref (ad 0)), (3, .int a.1), (4, .int a.2.1), (5, .long a.2.2.1), (7, .int a.2.2.2.1), (8, .int a.2.2.2.2.1)] → W p l e (z_rm 2 49) s m args below meth c H locs 0 0 (z_ql below D (z_Mt ca) (z_M ad ca o.2) A s args o.1) (F0 m 14 ls [])) (x3 : Int32) (x4 : Int32) (x7 : Int32) (x8 : Int32) (t1 : Int64) (h : k_Mo_shifted_61 ih14 x3 x4 x7 x8 t1 q = some o) : ∀ (H : Heap) (locs : List Loc) (ls : Array Slot), z_wd D (z_M ad ca q) A s H locs → lv_has ls 9 [(0, .ref (ad 0)), (3, .int x3), (4, .int x4), (7, .int x7), (8, .int x8)] → W p l e (z_rm 2 49) s m args below meth c H locs 0 0 (z_ql below D (z_Mt ca) (z_M ad ca o.2) A s args o.1) (F0 m 61 ls [.long t1, .ref (ad 0)]) := by
  obtain ⟨hx, hb, hr, hlk, hml, hown, hts, hK, hA⟩ := id C0
  intro H locs ls hw hl
  refine lv_iconst (v := (0 : Int32)) hx hb d_Mo_shifted_61 (by decide) ?_
  exact w_Mo_shifted_62 o C0 q ih14 hi14 x3 x4 x7 x8 t1 (0 : Int32) h H locs ls hw (lv_sub hl [0, 1, 2, 3, 4] rfl)
set_option maxHeartbeats 4000000 in
set_option maxRecDepth 100000 in
theorem wb_Mo_shifted_14 {p : Program} {l : Launch} {e : Env} {s : State} {m : MethodId} {args : Array Value} {below : List Frame} {meth : Method} {c : Code} {D : va_G} {A : Nat → Prop} {ad : Nat → Nat} {ca : Nat → ClassId} (o : (Int64 × z_Sg)) (C0 : z_cx z_RMo b_Mo_shifted 9 (some .long) D (z_Mt ca) A p s m args meth c) (q : z_Sg) (ih14 : Int32 × Int32 × Int64 × Int32 × Int32 × z_Sg → Option (Int64 × z_Sg)) (hi14 : ∀ a : Int32 × Int32 × Int64 × Int32 × Int32 × z_Sg, ih14 a = some o → ∀ (H : Heap) (locs : List Loc) (ls : Array Slot), z_wd D (z_M ad ca a.2.2.2.2.2) A s H locs → lv_has ls 9 [(0, .ref (ad 0)), (3, .int a.1), (4, .int a.2.1), (5, .long a.2.2.1), (7, .int a.2.2.2.1), (8, .int a.2.2.2.2.1)] → W p l e (z_rm 2 49) s m args below meth c H locs 0 0 (z_ql below D (z_Mt ca) (z_M ad ca o.2) A s args o.1) (F0 m 14 ls [])) (x3 : Int32) (x4 : Int32) (x5 : Int64) (x7 : Int32) (x8 : Int32) (h : kb_Mo_shifted_14 ih14 x3 x4 x5 x7 x8 q = some o) : ∀ (H : Heap) (locs : List Loc) (ls : Array Slot), z_wd D (z_M ad ca q) A s H locs → lv_has ls 9 [(0, .ref (ad 0)), (3, .int x3), (4, .int x4), (5, .long x5), (7, .int x7), (8, .int x8)] → W p l e (z_rm 2 49) s m args below meth c H locs 0 0 (z_ql below D (z_Mt ca) (z_M ad ca o.2) A s args o.1) (F0 m 14 ls []) := by
  obtain ⟨hx, hb, hr, hlk, hml, hown, hts, hK, hA⟩ := id C0
  intro H locs ls hw hl
  refine lv_iload hx hb d_Mo_shifted_14 (lv_at hl 5 rfl) ?_
  refine lv_iload_n hx hb d_Mo_shifted_16 rfl (lv_at hl 1 rfl) ?_
  refine lv_icmp_ge (tgt := 75) hx hb d_Mo_shifted_17 (by decide) (fun c2 => ?_) (fun c2 => ?_)
  · have h := ok_t h c2
    refine lv_aload_n hx hb d_Mo_shifted_75 rfl (lv_at hl 0 rfl) ?_
    refine gfM_0_flag C0 hw fl_Mo_21 d_Mo_shifted_76 ?_
    refine lv_iconst (v := (0 : Int32)) hx hb d_Mo_shifted_79 (by decide) ?_
    refine lv_aload_n hx hb d_Mo_shifted_80 rfl (lv_at hl 0 rfl) ?_
    refine gfM_0_went C0 hw fl_Mo_412 d_Mo_shifted_81 ?_
    obtain ⟨b3, h⟩ := ok_g h
    refine asM_4 C0 hw b3 d_Mo_shifted_84 (fun H locs hw => ?_)
    obtain ⟨q4, eq4, h⟩ := ok_n h
    rw [← eq4] at hw
    refine lv_iload_n hx hb d_Mo_shifted_85 rfl (lv_at hl 1 rfl) ?_
    refine lv_bipush (v := (8 : Int32)) hx hb d_Mo_shifted_86 (by decide) ?_
    refine lv_iload hx hb d_Mo_shifted_88 (lv_at hl 2 rfl) ?_
    refine lv_imul hx hb d_Mo_shifted_90 ?_
    refine lv_icmp_le (tgt := 108) hx hb d_Mo_shifted_91 (by decide) (fun c5 => ?_) (fun c5 => ?_)
    · have h := ok_t h c5
      exact w_Mo_shifted_108 o C0 q4 x3 x4 x5 x7 h H locs ls hw (lv_sub hl [0, 1, 2, 3, 4] rfl)
    · have h := ok_f h c5
      refine lv_aload_n hx hb d_Mo_shifted_94 rfl (lv_at hl 0 rfl) ?_
      refine gfM_0_reg C0 hw fl_Mo_139 d_Mo_shifted_95 ?_
      refine lv_bipush (v := (7 : Int32)) hx hb d_Mo_shifted_98 (by decide) ?_
      refine lv_icmp_eq (tgt := 108) hx hb d_Mo_shifted_100 (by decide) (fun c17 => ?_) (fun c17 => ?_)
      · have h := ok_t h c17
        exact w_Mo_shifted_108 o C0 q4 x3 x4 x5 x7 h H locs ls hw (lv_sub hl [0, 1, 2, 3, 4] rfl)
      · have h := ok_f h c17
        refine lv_aload_n hx hb d_Mo_shifted_103 rfl (lv_at hl 0 rfl) ?_
        refine lv_iconst (v := (0 : Int32)) hx hb d_Mo_shifted_104 (by decide) ?_
        obtain ⟨r18, er18, h⟩ := ok_b h
        refine z_vv (rest := []) C0 hw (c_Mo_leave (0 : Int32) q4 r18 er18) mw_Mo_leave ml_Mo_219 0 rfl ⟨Nat.le_of_ble_eq_true rfl, Nat.le_of_ble_eq_true rfl⟩ ⟨Nat.le_refl 0, Nat.le_refl 0⟩ rfl hl.1 rfl (Nat.le_of_ble_eq_true rfl) d_Mo_shifted_105 (fun H locs hw => ?_)
        exact w_Mo_shifted_108 o C0 r18 x3 x4 x5 x7 h H locs ls hw (lv_sub hl [0, 1, 2, 3, 4] rfl)
  · have h := ok_f h c2
    refine lv_aload_n hx hb d_Mo_shifted_20 rfl (lv_at hl 0 rfl) ?_
    refine gfM_0_reg C0 hw fl_Mo_139 d_Mo_shifted_21 ?_
    refine lv_iconst (v := (4 : Int32)) hx hb d_Mo_shifted_24 (by decide) ?_
    refine lv_icmp_ne (tgt := 40) hx hb d_Mo_shifted_25 (by decide) (fun c19 => ?_) (fun c19 => ?_)
    · have h := ok_f h c19
      refine lv_aload_n hx hb d_Mo_shifted_40 rfl (lv_at hl 0 rfl) ?_
      refine lv_lload hx hb d_Mo_shifted_41 (lv_at hl 3 rfl) ?_
      refine lv_aload_n hx hb d_Mo_shifted_43 rfl (lv_at hl 0 rfl) ?_
      refine gfM_0_reg C0 hw fl_Mo_139 d_Mo_shifted_44 ?_
      refine lv_bipush (v := (7 : Int32)) hx hb d_Mo_shifted_47 (by decide) ?_
      refine lv_icmp_ne (tgt := 61) hx hb d_Mo_shifted_49 (by decide) (fun c20 => ?_) (fun c20 => ?_)
      · have h := ok_f h c20
        exact w_Mo_shifted_61 o C0 q ih14 hi14 x3 x4 x7 x8 x5 h H locs ls hw (lv_sub hl [0, 1, 2, 4, 5] rfl)
      · have h := ok_t h c20
        refine lv_iload hx hb d_Mo_shifted_52 (lv_at hl 4 rfl) ?_
        refine lv_if_eq (tgt := 61) hx hb d_Mo_shifted_54 (by decide) (fun c23 => ?_) (fun c23 => ?_)
        · have h := ok_t h c23
          exact w_Mo_shifted_61 o C0 q ih14 hi14 x3 x4 x7 x8 x5 h H locs ls hw (lv_sub hl [0, 1, 2, 4, 5] rfl)
        · have h := ok_f h c23
          refine lv_iconst (v := (1 : Int32)) hx hb d_Mo_shifted_57 (by decide) ?_
          refine lv_goto (tgt := 62) hx hb d_Mo_shifted_58 (by decide) ?_
          exact w_Mo_shifted_62 o C0 q ih14 hi14 x3 x4 x7 x8 x5 (1 : Int32) h H locs ls hw (lv_sub hl [0, 1, 2, 4, 5] rfl)
    · have h := ok_t h c19
      refine lv_aload_n hx hb d_Mo_shifted_28 rfl (lv_at hl 0 rfl) ?_
      refine lv_lload hx hb d_Mo_shifted_29 (lv_at hl 3 rfl) ?_
      refine lv_iconst (v := (0 : Int32)) hx hb d_Mo_shifted_31 (by decide) ?_
      refine lv_iload hx hb d_Mo_shifted_32 (lv_at hl 2 rfl) ?_
      obtain ⟨r24, er24, h⟩ := ok_b h
      refine z_vl (rest := []) C0 hw (c_Mo_leftBy x5 (0 : Int32) x4 q r24 er24) mw_Mo_leftBy ml_Mo_415 0 rfl ⟨Nat.le_of_ble_eq_true rfl, Nat.le_of_ble_eq_true rfl⟩ ⟨Nat.le_refl 0, Nat.le_refl 0⟩ rfl hl.1 rfl (Nat.le_of_ble_eq_true rfl) d_Mo_shifted_34 (fun H locs hw => ?_)
      refine lv_goto (tgt := 67) hx hb d_Mo_shifted_37 (by decide) ?_
      exact w_Mo_shifted_67 o C0 r24.2 ih14 hi14 x3 x4 x7 x8 r24.1 h H locs ls hw (lv_sub hl [0, 1, 2, 4, 5] rfl)
theorem w_Mo_shifted_14 {p : Program} {l : Launch} {e : Env} {s : State} {m : MethodId} {args : Array Value} {below : List Frame} {meth : Method} {c : Code} {D : va_G} {A : Nat → Prop} {ad : Nat → Nat} {ca : Nat → ClassId} (o : (Int64 × z_Sg)) (C0 : z_cx z_RMo b_Mo_shifted 9 (some .long) D (z_Mt ca) A p s m args meth c) (q : z_Sg) (x3 : Int32) (x4 : Int32) (x5 : Int64) (x7 : Int32) (x8 : Int32) (h : k_Mo_shifted_14 x3 x4 x5 x7 x8 q = some o) : ∀ (H : Heap) (locs : List Loc) (ls : Array Slot), z_wd D (z_M ad ca q) A s H locs → lv_has ls 9 [(0, .ref (ad 0)), (3, .int x3), (4, .int x4), (5, .long x5), (7, .int x7), (8, .int x8)] → W p l e (z_rm 2 49) s m args below meth c H locs 0 0 (z_ql below D (z_Mt ca) (z_M ad ca o.2) A s args o.1) (F0 m 14 ls []) := by
  have key : ∀ (n : Nat) (a : Int32 × Int32 × Int64 × Int32 × Int32 × z_Sg), z_lo (fun ih14 a => kb_Mo_shifted_14 ih14 a.1 a.2.1 a.2.2.1 a.2.2.2.1 a.2.2.2.2.1 a.2.2.2.2.2) n a = some o → ∀ (H : Heap) (locs : List Loc) (ls : Array Slot), z_wd D (z_M ad ca a.2.2.2.2.2) A s H locs → lv_has ls 9 [(0, .ref (ad 0)), (3, .int a.1), (4, .int a.2.1), (5, .long a.2.2.1), (7, .int a.2.2.2.1), (8, .int a.2.2.2.2.1)] → W p l e (z_rm 2 49) s m args below meth c H locs 0 0 (z_ql below D (z_Mt ca) (z_M ad ca o.2) A s args o.1) (F0 m 14 ls []) := by
    intro n
    induction n with
    | zero => intro a h; cases h
    | succ n ih => exact fun a h => wb_Mo_shifted_14 o C0 a.2.2.2.2.2 (z_lo (fun ih14 a => kb_Mo_shifted_14 ih14 a.1 a.2.1 a.2.2.1 a.2.2.2.1 a.2.2.2.2.1 a.2.2.2.2.2) n) ih a.1 a.2.1 a.2.2.1 a.2.2.2.1 a.2.2.2.2.1 h
  exact key 2000 (x3, x4, x5, x7, x8, q) h
set_option maxHeartbeats 4000000 in
set_option maxRecDepth 100000 in
theorem c_Mo_shifted {l : Launch} {D : va_G} {ad : Nat → Nat} {ca : Nat → ClassId} (x1 : Int64) (x3 : Int32) (x4 : Int32) (q : z_Sg) (o : (Int64 × z_Sg)) (h : f_Mo_shifted x1 x3 x4 q = some o) : z_cl l y_Mo_shifted b_Mo_shifted 9 (some .long) 2 49 D (z_Mt ca) (z_M ad ca q) (z_M ad ca o.2) [.ref (ad 0), .long x1, .int x3, .int x4] o.1 := by
  refine z_cl_of (own := z_RMo) (by decide) rfl ?_
  intro p e s m below meth c A C0 hw
  obtain ⟨hx, hb, hr, hlk, hml, hown, hts, hK, hA⟩ := id C0
  generalize hH : s.heap = H at hw ⊢
  generalize hlo : ([] : List Loc) = locs at hw ⊢
  refine z_entry (lv := [(0, .ref (ad 0)), (1, .long x1), (3, .int x3), (4, .int x4)]) (Nat.le_of_ble_eq_true rfl) rfl (fun ls hl => ?_)
  unfold f_Mo_shifted at h
  refine lv_lload_n hx hb d_Mo_shifted_0 rfl (lv_at hl 1 rfl) ?_
  refine lv_lstore (lv' := [(5, .long x1), (0, .ref (ad 0)), (1, .long x1), (3, .int x3), (4, .int x4)]) hx hb d_Mo_shifted_1 hl (by decide) rfl (fun ls hl => ?_)
  refine lv_lload_n hx hb d_Mo_shifted_3 rfl (lv_at hl 2 rfl) ?_
  refine lv_iload hx hb d_Mo_shifted_4 (lv_at hl 4 rfl) ?_
  obtain ⟨r1, er1, h⟩ := ok_b h
  refine z_si (rest := []) C0 hw (c_Mo_top x1 x4 q r1 er1) mw_Mo_top ml_Mo_212 ⟨Nat.le_of_ble_eq_true rfl, Nat.le_of_ble_eq_true rfl⟩ ⟨Nat.le_refl 0, Nat.le_refl 0⟩ rfl hl.1 rfl (Nat.le_of_ble_eq_true rfl) d_Mo_shifted_6 (fun H locs hw => ?_)
  refine lv_istore (lv' := [(7, .int r1), (5, .long x1), (0, .ref (ad 0)), (1, .long x1), (3, .int x3), (4, .int x4)]) hx hb d_Mo_shifted_9 hl (by decide) rfl (fun ls hl => ?_)
  refine lv_iconst (v := (0 : Int32)) hx hb d_Mo_shifted_11 (by decide) ?_
  refine lv_istore (lv' := [(8, .int (0 : Int32)), (7, .int r1), (5, .long x1), (0, .ref (ad 0)), (1, .long x1), (3, .int x3), (4, .int x4)]) hx hb d_Mo_shifted_12 hl (by decide) rfl (fun ls hl => ?_)
  exact w_Mo_shifted_14 o C0 q x3 x4 x1 r1 (0 : Int32) h H locs ls hw (lv_sub hl [3, 5, 6, 2, 1, 0] rfl)
def k_Mo_rotated_281 (x7 : Int64) (q : z_Sg) : Option (Int64 × z_Sg) :=
  some (x7, q)
def k_Mo_rotated_269 (x3 : Int32) (x7 : Int64) (t1 : Int32) (t2 : Int32) (q : z_Sg) : Option (Int64 × z_Sg) :=
  if z_bad t1 7 then none else (z_nm (z_sN q 1 t1.toNatClampNeg (vp_nar .boolean t2)) (fun q11 => if x3 = (1 : Int32) then (k_Mo_rotated_281 x7 q11) else ((f_Mo_leave (6 : Int32) q11).bind (fun r13 => k_Mo_rotated_281 x7 r13))))
def k_Mo_rotated_261 (x3 : Int32) (x7 : Int64) (t1 : Int32) (t2 : Int32) (t3 : Int32) (q : z_Sg) : Option (Int64 × z_Sg) :=
  if t2 = t3 then (k_Mo_rotated_269 x3 x7 t1 (0 : Int32) q) else (k_Mo_rotated_269 x3 x7 t1 (1 : Int32) q)
def k_Mo_rotated_230 (x3 : Int32) (x4 : Int32) (x5 : Int32) (x7 : Int64) (t0 : Int32) (q : z_Sg) : Option (Int64 × z_Sg) :=
  (f_Mo_top x7 x4 q).bind (fun r7 => if x5 = 0 then (k_Mo_rotated_261 x3 x7 (6 : Int32) r7 t0 q) else (if z_bad (0 : Int32) 7 then none else (k_Mo_rotated_261 x3 x7 (6 : Int32) r7 (z_gN q 1 (0 : Int32).toNatClampNeg) q)))
def k_Mo_rotated_208 (x3 : Int32) (x4 : Int32) (x5 : Int32) (x7 : Int64) (q : z_Sg) : Option (Int64 × z_Sg) :=
  if ((z_lushr x7 (((8 : Int32) * x4) - (2 : Int32))) &&& (1 : Int64)) = (1 : Int64) then (k_Mo_rotated_230 x3 x4 x5 x7 (1 : Int32) q) else (k_Mo_rotated_230 x3 x4 x5 x7 (0 : Int32) q)
def k_Mo_rotated_187 (x3 : Int32) (x4 : Int32) (x5 : Int32) (x7 : Int64) (q : z_Sg) : Option (Int64 × z_Sg) :=
  if (z_gI q 8) = (1 : Int32) then ((f_Mo_top x7 x4 q).bind (fun r15 => if z_bad (0 : Int32) 7 then none else (z_nm (z_sN q 1 (0 : Int32).toNatClampNeg (vp_nar .boolean r15)) (fun q17 => k_Mo_rotated_208 x3 x4 x5 x7 q17)))) else (k_Mo_rotated_208 x3 x4 x5 x7 q)
def k_Mo_rotated_186 (x3 : Int32) (x4 : Int32) (x5 : Int32) (x7 : Int64) (t1 : Int32) (t2 : Int32) (q : z_Sg) : Option (Int64 × z_Sg) :=
  if z_bad t1 7 then none else (z_nm (z_sN q 1 t1.toNatClampNeg (vp_nar .boolean t2)) (fun q20 => k_Mo_rotated_187 x3 x4 x5 x7 q20))
def k_Mo_rotated_154 (ih51 : Int32 × Int32 × Int32 × Int32 × Int64 × Int32 × z_Sg → Option (Int64 × z_Sg)) (x3 : Int32) (x4 : Int32) (x5 : Int32) (x6 : Int32) (x7 : Int64) (x9 : Int32) (q : z_Sg) : Option (Int64 × z_Sg) :=
  z_nm (x9 + (1 : Int32)) (fun n27 => ih51 (x3, x4, x5, x6, x7, n27, q))
def k_Mo_rotated_134 (ih51 : Int32 × Int32 × Int32 × Int32 × Int64 × Int32 × z_Sg → Option (Int64 × z_Sg)) (x3 : Int32) (x4 : Int32) (x5 : Int32) (x6 : Int32) (x9 : Int32) (t0 : Int64) (q : z_Sg) : Option (Int64 × z_Sg) :=
  if (z_gI q 8) ≤ (1 : Int32) then (k_Mo_rotated_154 ih51 x3 x4 x5 x6 t0 x9 q) else (if z_bad (0 : Int32) 7 then none else (z_nm (z_sN q 1 (0 : Int32).toNatClampNeg (vp_nar .boolean (z_gI q 19))) (fun q29 => k_Mo_rotated_154 ih51 x3 x4 x5 x6 t0 x9 q29)))
def k_Mo_rotated_104 (ih51 : Int32 × Int32 × Int32 × Int32 × Int64 × Int32 × z_Sg → Option (Int64 × z_Sg)) (x3 : Int32) (x4 : Int32) (x5 : Int32) (x6 : Int32) (x7 : Int64) (x9 : Int32) (t0 : Int32) (q : z_Sg) : Option (Int64 × z_Sg) :=
  if x5 = 0 then ((f_Mo_rightBy x7 t0 x4 q).bind (fun r25 => k_Mo_rotated_134 ih51 x3 x4 x5 x6 x9 r25.1 r25.2)) else ((f_Mo_leftBy x7 t0 x4 q).bind (fun r30 => k_Mo_rotated_134 ih51 x3 x4 x5 x6 x9 r30.1 r30.2))
def kb_Mo_rotated_51 (ih51 : Int32 × Int32 × Int32 × Int32 × Int64 × Int32 × z_Sg → Option (Int64 × z_Sg)) (x3 : Int32) (x4 : Int32) (x5 : Int32) (x6 : Int32) (x7 : Int64) (x9 : Int32) (q : z_Sg) : Option (Int64 × z_Sg) :=
  if x6 ≤ x9 then (if (z_gI q 8) = 0 then (if (x7 &&& (1 : Int64)) = (1 : Int64) then (k_Mo_rotated_186 x3 x4 x5 x7 (0 : Int32) (1 : Int32) q) else (k_Mo_rotated_186 x3 x4 x5 x7 (0 : Int32) (0 : Int32) q)) else (k_Mo_rotated_187 x3 x4 x5 x7 q)) else (if (z_gI q 8) ≤ (1 : Int32) then (if x5 = 0 then (if (x7 &&& (1 : Int64)) = (1 : Int64) then (k_Mo_rotated_104 ih51 x3 x4 x5 x6 x7 x9 (1 : Int32) q) else (k_Mo_rotated_104 ih51 x3 x4 x5 x6 x7 x9 (0 : Int32) q)) else ((f_Mo_top x7 x4 q).bind (fun r31 => k_Mo_rotated_104 ih51 x3 x4 x5 x6 x7 x9 r31 q))) else (if z_bad (0 : Int32) 7 then none else (k_Mo_rotated_104 ih51 x3 x4 x5 x6 x7 x9 (z_gN q 1 (0 : Int32).toNatClampNeg) q)))
def k_Mo_rotated_51 (x3 : Int32) (x4 : Int32) (x5 : Int32) (x6 : Int32) (x7 : Int64) (x9 : Int32) (q : z_Sg) : Option (Int64 × z_Sg) := z_lo (fun ih51 a => kb_Mo_rotated_51 ih51 a.1 a.2.1 a.2.2.1 a.2.2.2.1 a.2.2.2.2.1 a.2.2.2.2.2.1 a.2.2.2.2.2.2) 2000 (x3, x4, x5, x6, x7, x9, q)
def k_Mo_rotated_43 (x1 : Int64) (x3 : Int32) (x4 : Int32) (x5 : Int32) (t0 : Int32) (q : z_Sg) : Option (Int64 × z_Sg) :=
  k_Mo_rotated_51 x3 x4 x5 t0 x1 (0 : Int32) q
def k_Mo_rotated_42 (x1 : Int64) (x3 : Int32) (x4 : Int32) (x5 : Int32) (q : z_Sg) : Option (Int64 × z_Sg) :=
  k_Mo_rotated_43 x1 x3 x4 x5 x3 q
def k_Mo_rotated_14 (x1 : Int64) (x3 : Int32) (x4 : Int32) (t0 : Int32) (q : z_Sg) : Option (Int64 × z_Sg) :=
  if (z_gI q 8) ≤ (1 : Int32) then (k_Mo_rotated_42 x1 x3 x4 t0 q) else (if (4 : Int32) ≤ x4 then (k_Mo_rotated_42 x1 x3 x4 t0 q) else (if (((8 : Int32) * x4) + (1 : Int32)) = 0 then none else (k_Mo_rotated_43 x1 x3 x4 t0 (x3 - x3 / (((8 : Int32) * x4) + (1 : Int32)) * (((8 : Int32) * x4) + (1 : Int32))) q)))
def f_Mo_rotated (x1 : Int64) (x3 : Int32) (x4 : Int32) (q : z_Sg) : Option (Int64 × z_Sg) :=
  if ((z_gI q 8) - (z_gI q 8) / (2 : Int32) * (2 : Int32)) = 0 then (k_Mo_rotated_14 x1 x3 x4 (1 : Int32) q) else (k_Mo_rotated_14 x1 x3 x4 (0 : Int32) q)
set_option maxHeartbeats 4000000 in
set_option maxRecDepth 100000 in
theorem w_Mo_rotated_281 {p : Program} {l : Launch} {e : Env} {s : State} {m : MethodId} {args : Array Value} {below : List Frame} {meth : Method} {c : Code} {D : va_G} {A : Nat → Prop} {ad : Nat → Nat} {ca : Nat → ClassId} (o : (Int64 × z_Sg)) (C0 : z_cx z_RMo b_Mo_rotated 11 (some .long) D (z_Mt ca) A p s m args meth c) (q : z_Sg) (x7 : Int64) (h : k_Mo_rotated_281 x7 q = some o) : ∀ (H : Heap) (locs : List Loc) (ls : Array Slot), z_wd D (z_M ad ca q) A s H locs → lv_has ls 11 [(7, .long x7)] → W p l e (z_rm 2 49) s m args below meth c H locs 0 0 (z_ql below D (z_Mt ca) (z_M ad ca o.2) A s args o.1) (F0 m 281 ls []) := by
  obtain ⟨hx, hb, hr, hlk, hml, hown, hts, hK, hA⟩ := id C0
  intro H locs ls hw hl
  refine lv_lload hx hb d_Mo_rotated_281 (lv_at hl 0 rfl) ?_
  have ho := Option.some.inj h
  subst ho
  exact z_rtl C0 hw d_Mo_rotated_283
set_option maxHeartbeats 4000000 in
set_option maxRecDepth 100000 in
theorem w_Mo_rotated_269 {p : Program} {l : Launch} {e : Env} {s : State} {m : MethodId} {args : Array Value} {below : List Frame} {meth : Method} {c : Code} {D : va_G} {A : Nat → Prop} {ad : Nat → Nat} {ca : Nat → ClassId} (o : (Int64 × z_Sg)) (C0 : z_cx z_RMo b_Mo_rotated 11 (some .long) D (z_Mt ca) A p s m args meth c) (q : z_Sg) (x3 : Int32) (x7 : Int64) (t1 : Int32) (t2 : Int32) (h : k_Mo_rotated_269 x3 x7 t1 t2 q = some o) : ∀ (H : Heap) (locs : List Loc) (ls : Array Slot), z_wd D (z_M ad ca q) A s H locs → lv_has ls 11 [(0, .ref (ad 0)), (3, .int x3), (7, .long x7)] → W p l e (z_rm 2 49) s m args below meth c H locs 0 0 (z_ql below D (z_Mt ca) (z_M ad ca o.2) A s args o.1) (F0 m 269 ls [.int t2, .int t1, .ref (ad 4)]) := by
  obtain ⟨hx, hb, hr, hlk, hml, hown, hts, hK, hA⟩ := id C0
  intro H locs ls hw hl
  obtain ⟨b10, h⟩ := ok_g h
  refine asM_4 C0 hw b10 d_Mo_rotated_269 (fun H locs hw => ?_)
  obtain ⟨q11, eq11, h⟩ := ok_n h
  rw [← eq11] at hw
  refine lv_iload_n hx hb d_Mo_rotated_270 rfl (lv_at hl 1 rfl) ?_
  refine lv_iconst (v := (1 : Int32)) hx hb d_Mo_rotated_271 (by decide) ?_
  refine lv_icmp_eq (tgt := 281) hx hb d_Mo_rotated_272 (by decide) (fun c12 => ?_) (fun c12 => ?_)
  · have h := ok_t h c12
    exact w_Mo_rotated_281 o C0 q11 x7 h H locs ls hw (lv_sub hl [2] rfl)
  · have h := ok_f h c12
    refine lv_aload_n hx hb d_Mo_rotated_275 rfl (lv_at hl 0 rfl) ?_
    refine lv_bipush (v := (6 : Int32)) hx hb d_Mo_rotated_276 (by decide) ?_
    obtain ⟨r13, er13, h⟩ := ok_b h
    refine z_vv (rest := []) C0 hw (c_Mo_leave (6 : Int32) q11 r13 er13) mw_Mo_leave ml_Mo_219 0 rfl ⟨Nat.le_of_ble_eq_true rfl, Nat.le_of_ble_eq_true rfl⟩ ⟨Nat.le_refl 0, Nat.le_refl 0⟩ rfl hl.1 rfl (Nat.le_of_ble_eq_true rfl) d_Mo_rotated_278 (fun H locs hw => ?_)
    exact w_Mo_rotated_281 o C0 r13 x7 h H locs ls hw (lv_sub hl [2] rfl)
set_option maxHeartbeats 4000000 in
set_option maxRecDepth 100000 in
theorem w_Mo_rotated_261 {p : Program} {l : Launch} {e : Env} {s : State} {m : MethodId} {args : Array Value} {below : List Frame} {meth : Method} {c : Code} {D : va_G} {A : Nat → Prop} {ad : Nat → Nat} {ca : Nat → ClassId} (o : (Int64 × z_Sg)) (C0 : z_cx z_RMo b_Mo_rotated 11 (some .long) D (z_Mt ca) A p s m args meth c) (q : z_Sg) (x3 : Int32) (x7 : Int64) (t1 : Int32) (t2 : Int32) (t3 : Int32) (h : k_Mo_rotated_261 x3 x7 t1 t2 t3 q = some o) : ∀ (H : Heap) (locs : List Loc) (ls : Array Slot), z_wd D (z_M ad ca q) A s H locs → lv_has ls 11 [(0, .ref (ad 0)), (3, .int x3), (7, .long x7)] → W p l e (z_rm 2 49) s m args below meth c H locs 0 0 (z_ql below D (z_Mt ca) (z_M ad ca o.2) A s args o.1) (F0 m 261 ls [.int t3, .int t2, .int t1, .ref (ad 4)]) := by
  obtain ⟨hx, hb, hr, hlk, hml, hown, hts, hK, hA⟩ := id C0
  intro H locs ls hw hl
  refine lv_icmp_eq (tgt := 268) hx hb d_Mo_rotated_261 (by decide) (fun c9 => ?_) (fun c9 => ?_)
  · have h := ok_t h c9
    refine lv_iconst (v := (0 : Int32)) hx hb d_Mo_rotated_268 (by decide) ?_
    exact w_Mo_rotated_269 o C0 q x3 x7 t1 (0 : Int32) h H locs ls hw (lv_sub hl [0, 1, 2] rfl)
  · have h := ok_f h c9
    refine lv_iconst (v := (1 : Int32)) hx hb d_Mo_rotated_264 (by decide) ?_
    refine lv_goto (tgt := 269) hx hb d_Mo_rotated_265 (by decide) ?_
    exact w_Mo_rotated_269 o C0 q x3 x7 t1 (1 : Int32) h H locs ls hw (lv_sub hl [0, 1, 2] rfl)
set_option maxHeartbeats 4000000 in
set_option maxRecDepth 100000 in
theorem w_Mo_rotated_230 {p : Program} {l : Launch} {e : Env} {s : State} {m : MethodId} {args : Array Value} {below : List Frame} {meth : Method} {c : Code} {D : va_G} {A : Nat → Prop} {ad : Nat → Nat} {ca : Nat → ClassId} (o : (Int64 × z_Sg)) (C0 : z_cx z_RMo b_Mo_rotated 11 (some .long) D (z_Mt ca) A p s m args meth c) (q : z_Sg) (x3 : Int32) (x4 : Int32) (x5 : Int32) (x7 : Int64) (t0 : Int32) (h : k_Mo_rotated_230 x3 x4 x5 x7 t0 q = some o) : ∀ (H : Heap) (locs : List Loc) (ls : Array Slot), z_wd D (z_M ad ca q) A s H locs → lv_has ls 11 [(0, .ref (ad 0)), (3, .int x3), (4, .int x4), (5, .int x5), (7, .long x7)] → W p l e (z_rm 2 49) s m args below meth c H locs 0 0 (z_ql below D (z_Mt ca) (z_M ad ca o.2) A s args o.1) (F0 m 230 ls [.int t0]) := by
  obtain ⟨hx, hb, hr, hlk, hml, hown, hts, hK, hA⟩ := id C0
  intro H locs ls hw hl
  refine lv_istore (lv' := [(9, .int t0), (0, .ref (ad 0)), (3, .int x3), (4, .int x4), (5, .int x5), (7, .long x7)]) hx hb d_Mo_rotated_230 hl (by decide) rfl (fun ls hl => ?_)
  refine lv_aload_n hx hb d_Mo_rotated_232 rfl (lv_at hl 1 rfl) ?_
  refine gfM_0_flag C0 hw fl_Mo_21 d_Mo_rotated_233 ?_
  refine lv_bipush (v := (6 : Int32)) hx hb d_Mo_rotated_236 (by decide) ?_
  refine lv_lload hx hb d_Mo_rotated_238 (lv_at hl 5 rfl) ?_
  refine lv_iload hx hb d_Mo_rotated_240 (lv_at hl 3 rfl) ?_
  obtain ⟨r7, er7, h⟩ := ok_b h
  refine z_si (rest := [.int (6 : Int32), .ref (ad 4)]) C0 hw (c_Mo_top x7 x4 q r7 er7) mw_Mo_top ml_Mo_212 ⟨Nat.le_of_ble_eq_true rfl, Nat.le_of_ble_eq_true rfl⟩ ⟨Nat.le_refl 0, Nat.le_refl 0⟩ rfl hl.1 rfl (Nat.le_of_ble_eq_true rfl) d_Mo_rotated_242 (fun H locs hw => ?_)
  refine lv_iload hx hb d_Mo_rotated_245 (lv_at hl 4 rfl) ?_
  refine lv_if_eq (tgt := 259) hx hb d_Mo_rotated_247 (by decide) (fun c8 => ?_) (fun c8 => ?_)
  · have h := ok_t h c8
    refine lv_iload hx hb d_Mo_rotated_259 (lv_at hl 0 rfl) ?_
    exact w_Mo_rotated_261 o C0 q x3 x7 (6 : Int32) r7 t0 h H locs ls hw (lv_sub hl [1, 2, 5] rfl)
  · have h := ok_f h c8
    refine lv_aload_n hx hb d_Mo_rotated_250 rfl (lv_at hl 1 rfl) ?_
    refine gfM_0_flag C0 hw fl_Mo_21 d_Mo_rotated_251 ?_
    refine lv_iconst (v := (0 : Int32)) hx hb d_Mo_rotated_254 (by decide) ?_
    obtain ⟨b14, h⟩ := ok_g h
    refine alM_4 C0 hw b14 d_Mo_rotated_255 ?_
    refine lv_goto (tgt := 261) hx hb d_Mo_rotated_256 (by decide) ?_
    exact w_Mo_rotated_261 o C0 q x3 x7 (6 : Int32) r7 (z_gN q 1 (0 : Int32).toNatClampNeg) h H locs ls hw (lv_sub hl [1, 2, 5] rfl)
set_option maxHeartbeats 4000000 in
set_option maxRecDepth 100000 in
theorem w_Mo_rotated_208 {p : Program} {l : Launch} {e : Env} {s : State} {m : MethodId} {args : Array Value} {below : List Frame} {meth : Method} {c : Code} {D : va_G} {A : Nat → Prop} {ad : Nat → Nat} {ca : Nat → ClassId} (o : (Int64 × z_Sg)) (C0 : z_cx z_RMo b_Mo_rotated 11 (some .long) D (z_Mt ca) A p s m args meth c) (q : z_Sg) (x3 : Int32) (x4 : Int32) (x5 : Int32) (x7 : Int64) (h : k_Mo_rotated_208 x3 x4 x5 x7 q = some o) : ∀ (H : Heap) (locs : List Loc) (ls : Array Slot), z_wd D (z_M ad ca q) A s H locs → lv_has ls 11 [(0, .ref (ad 0)), (3, .int x3), (4, .int x4), (5, .int x5), (7, .long x7)] → W p l e (z_rm 2 49) s m args below meth c H locs 0 0 (z_ql below D (z_Mt ca) (z_M ad ca o.2) A s args o.1) (F0 m 208 ls []) := by
  obtain ⟨hx, hb, hr, hlk, hml, hown, hts, hK, hA⟩ := id C0
  intro H locs ls hw hl
  refine lv_lload hx hb d_Mo_rotated_208 (lv_at hl 4 rfl) ?_
  refine lv_bipush (v := (8 : Int32)) hx hb d_Mo_rotated_210 (by decide) ?_
  refine lv_iload hx hb d_Mo_rotated_212 (lv_at hl 2 rfl) ?_
  refine lv_imul hx hb d_Mo_rotated_214 ?_
  refine lv_iconst (v := (2 : Int32)) hx hb d_Mo_rotated_215 (by decide) ?_
  refine lv_isub hx hb d_Mo_rotated_216 ?_
  refine lv_lushr (v := (z_lushr x7 (((8 : Int32) * x4) - (2 : Int32)))) hx hb d_Mo_rotated_217 rfl ?_
  refine lv_lconst (v := (1 : Int64)) hx hb d_Mo_rotated_218 (by decide) ?_
  refine lv_land hx hb d_Mo_rotated_219 ?_
  refine lv_lconst (v := (1 : Int64)) hx hb d_Mo_rotated_220 (by decide) ?_
  refine W.lcmp hx hb d_Mo_rotated_221 ?_
  refine lv_if_ne (tgt := 229) hx hb d_Mo_rotated_222 (by decide) (fun c6 => ?_) (fun c6 => ?_)
  · have h := ok_f h (fun z => c6 ((lg_cmp_eq _ _).mpr z))
    refine lv_iconst (v := (0 : Int32)) hx hb d_Mo_rotated_229 (by decide) ?_
    exact w_Mo_rotated_230 o C0 q x3 x4 x5 x7 (0 : Int32) h H locs ls hw (lv_sub hl [0, 1, 2, 3, 4] rfl)
  · have h := ok_t h ((lg_cmp_eq _ _).mp c6)
    refine lv_iconst (v := (1 : Int32)) hx hb d_Mo_rotated_225 (by decide) ?_
    refine lv_goto (tgt := 230) hx hb d_Mo_rotated_226 (by decide) ?_
    exact w_Mo_rotated_230 o C0 q x3 x4 x5 x7 (1 : Int32) h H locs ls hw (lv_sub hl [0, 1, 2, 3, 4] rfl)
set_option maxHeartbeats 4000000 in
set_option maxRecDepth 100000 in
theorem w_Mo_rotated_187 {p : Program} {l : Launch} {e : Env} {s : State} {m : MethodId} {args : Array Value} {below : List Frame} {meth : Method} {c : Code} {D : va_G} {A : Nat → Prop} {ad : Nat → Nat} {ca : Nat → ClassId} (o : (Int64 × z_Sg)) (C0 : z_cx z_RMo b_Mo_rotated 11 (some .long) D (z_Mt ca) A p s m args meth c) (q : z_Sg) (x3 : Int32) (x4 : Int32) (x5 : Int32) (x7 : Int64) (h : k_Mo_rotated_187 x3 x4 x5 x7 q = some o) : ∀ (H : Heap) (locs : List Loc) (ls : Array Slot), z_wd D (z_M ad ca q) A s H locs → lv_has ls 11 [(0, .ref (ad 0)), (3, .int x3), (4, .int x4), (5, .int x5), (7, .long x7)] → W p l e (z_rm 2 49) s m args below meth c H locs 0 0 (z_ql below D (z_Mt ca) (z_M ad ca o.2) A s args o.1) (F0 m 187 ls []) := by
  obtain ⟨hx, hb, hr, hlk, hml, hown, hts, hK, hA⟩ := id C0
  intro H locs ls hw hl
  refine lv_aload_n hx hb d_Mo_rotated_187 rfl (lv_at hl 0 rfl) ?_
  refine gfM_0_reg C0 hw fl_Mo_139 d_Mo_rotated_188 ?_
  refine lv_iconst (v := (1 : Int32)) hx hb d_Mo_rotated_191 (by decide) ?_
  refine lv_icmp_ne (tgt := 208) hx hb d_Mo_rotated_192 (by decide) (fun c5 => ?_) (fun c5 => ?_)
  · have h := ok_f h c5
    exact w_Mo_rotated_208 o C0 q x3 x4 x5 x7 h H locs ls hw (lv_sub hl [0, 1, 2, 3, 4] rfl)
  · have h := ok_t h c5
    refine lv_aload_n hx hb d_Mo_rotated_195 rfl (lv_at hl 0 rfl) ?_
    refine gfM_0_flag C0 hw fl_Mo_21 d_Mo_rotated_196 ?_
    refine lv_iconst (v := (0 : Int32)) hx hb d_Mo_rotated_199 (by decide) ?_
    refine lv_lload hx hb d_Mo_rotated_200 (lv_at hl 4 rfl) ?_
    refine lv_iload hx hb d_Mo_rotated_202 (lv_at hl 2 rfl) ?_
    obtain ⟨r15, er15, h⟩ := ok_b h
    refine z_si (rest := [.int (0 : Int32), .ref (ad 4)]) C0 hw (c_Mo_top x7 x4 q r15 er15) mw_Mo_top ml_Mo_212 ⟨Nat.le_of_ble_eq_true rfl, Nat.le_of_ble_eq_true rfl⟩ ⟨Nat.le_refl 0, Nat.le_refl 0⟩ rfl hl.1 rfl (Nat.le_of_ble_eq_true rfl) d_Mo_rotated_204 (fun H locs hw => ?_)
    obtain ⟨b16, h⟩ := ok_g h
    refine asM_4 C0 hw b16 d_Mo_rotated_207 (fun H locs hw => ?_)
    obtain ⟨q17, eq17, h⟩ := ok_n h
    rw [← eq17] at hw
    exact w_Mo_rotated_208 o C0 q17 x3 x4 x5 x7 h H locs ls hw (lv_sub hl [0, 1, 2, 3, 4] rfl)
set_option maxHeartbeats 4000000 in
set_option maxRecDepth 100000 in
theorem w_Mo_rotated_186 {p : Program} {l : Launch} {e : Env} {s : State} {m : MethodId} {args : Array Value} {below : List Frame} {meth : Method} {c : Code} {D : va_G} {A : Nat → Prop} {ad : Nat → Nat} {ca : Nat → ClassId} (o : (Int64 × z_Sg)) (C0 : z_cx z_RMo b_Mo_rotated 11 (some .long) D (z_Mt ca) A p s m args meth c) (q : z_Sg) (x3 : Int32) (x4 : Int32) (x5 : Int32) (x7 : Int64) (t1 : Int32) (t2 : Int32) (h : k_Mo_rotated_186 x3 x4 x5 x7 t1 t2 q = some o) : ∀ (H : Heap) (locs : List Loc) (ls : Array Slot), z_wd D (z_M ad ca q) A s H locs → lv_has ls 11 [(0, .ref (ad 0)), (3, .int x3), (4, .int x4), (5, .int x5), (7, .long x7)] → W p l e (z_rm 2 49) s m args below meth c H locs 0 0 (z_ql below D (z_Mt ca) (z_M ad ca o.2) A s args o.1) (F0 m 186 ls [.int t2, .int t1, .ref (ad 4)]) := by
  obtain ⟨hx, hb, hr, hlk, hml, hown, hts, hK, hA⟩ := id C0
  intro H locs ls hw hl
  obtain ⟨b19, h⟩ := ok_g h
  refine asM_4 C0 hw b19 d_Mo_rotated_186 (fun H locs hw => ?_)
  obtain ⟨q20, eq20, h⟩ := ok_n h
  rw [← eq20] at hw
  exact w_Mo_rotated_187 o C0 q20 x3 x4 x5 x7 h H locs ls hw (lv_sub hl [0, 1, 2, 3, 4] rfl)
set_option maxHeartbeats 4000000 in
set_option maxRecDepth 100000 in
theorem w_Mo_rotated_154 {p : Program} {l : Launch} {e : Env} {s : State} {m : MethodId} {args : Array Value} {below : List Frame} {meth : Method} {c : Code} {D : va_G} {A : Nat → Prop} {ad : Nat → Nat} {ca : Nat → ClassId} (o : (Int64 × z_Sg)) (C0 : z_cx z_RMo b_Mo_rotated 11 (some .long) D (z_Mt ca) A p s m args meth c) (q : z_Sg) (ih51 : Int32 × Int32 × Int32 × Int32 × Int64 × Int32 × z_Sg → Option (Int64 × z_Sg)) (hi51 : ∀ a : Int32 × Int32 × Int32 × Int32 × Int64 × Int32 × z_Sg, ih51 a = some o → ∀ (H : Heap) (locs : List Loc) (ls : Array Slot), z_wd D (z_M ad ca a.2.2.2.2.2.2) A s H locs → lv_has ls 11 [(0, .ref (ad 0)), (3, .int a.1), (4, .int a.2.1), (5, .int a.2.2.1), (6, .int a.2.2.2.1), (7, .long a.2.2.2.2.1), (9, .int a.2.2.2.2.2.1)] → W p l e (z_rm 2 49) s m args below meth c H locs 0 0 (z_ql below D (z_Mt ca) (z_M ad ca o.2) A s args o.1) (F0 m 51 ls [])) (x3 : Int32) (x4 : Int32) (x5 : Int32) (x6 : Int32) (x7 : Int64) (x9 : Int32) (h : k_Mo_rotated_154 ih51 x3 x4 x5 x6 x7 x9 q = some o) : ∀ (H : Heap) (locs : List Loc) (ls : Array Slot), z_wd D (z_M ad ca q) A s H locs → lv_has ls 11 [(0, .ref (ad 0)), (3, .int x3), (4, .int x4), (5, .int x5), (6, .int x6), (7, .long x7), (9, .int x9)] → W p l e (z_rm 2 49) s m args below meth c H locs 0 0 (z_ql below D (z_Mt ca) (z_M ad ca o.2) A s args o.1) (F0 m 154 ls []) := by
  obtain ⟨hx, hb, hr, hlk, hml, hown, hts, hK, hA⟩ := id C0
  intro H locs ls hw hl
  obtain ⟨n27, en27, h⟩ := ok_n h
  refine lv_iinc (v := n27) (lv' := [(9, .int n27), (0, .ref (ad 0)), (3, .int x3), (4, .int x4), (5, .int x5), (6, .int x6), (7, .long x7)]) hx hb d_Mo_rotated_154 hl (k := 6) rfl (by rw [en27]; rfl) (by decide) rfl (fun ls hl => ?_)
  refine lv_goto (tgt := 51) hx hb d_Mo_rotated_157 (by decide) ?_
  exact hi51 (x3, x4, x5, x6, x7, n27, q) h H locs ls hw (lv_sub hl [1, 2, 3, 4, 5, 6, 0] rfl)
set_option maxHeartbeats 4000000 in
set_option maxRecDepth 100000 in
theorem w_Mo_rotated_134 {p : Program} {l : Launch} {e : Env} {s : State} {m : MethodId} {args : Array Value} {below : List Frame} {meth : Method} {c : Code} {D : va_G} {A : Nat → Prop} {ad : Nat → Nat} {ca : Nat → ClassId} (o : (Int64 × z_Sg)) (C0 : z_cx z_RMo b_Mo_rotated 11 (some .long) D (z_Mt ca) A p s m args meth c) (q : z_Sg) (ih51 : Int32 × Int32 × Int32 × Int32 × Int64 × Int32 × z_Sg → Option (Int64 × z_Sg)) (hi51 : ∀ a : Int32 × Int32 × Int32 × Int32 × Int64 × Int32 × z_Sg, ih51 a = some o → ∀ (H : Heap) (locs : List Loc) (ls : Array Slot), z_wd D (z_M ad ca a.2.2.2.2.2.2) A s H locs → lv_has ls 11 [(0, .ref (ad 0)), (3, .int a.1), (4, .int a.2.1), (5, .int a.2.2.1), (6, .int a.2.2.2.1), (7, .long a.2.2.2.2.1), (9, .int a.2.2.2.2.2.1)] → W p l e (z_rm 2 49) s m args below meth c H locs 0 0 (z_ql below D (z_Mt ca) (z_M ad ca o.2) A s args o.1) (F0 m 51 ls [])) (x3 : Int32) (x4 : Int32) (x5 : Int32) (x6 : Int32) (x9 : Int32) (t0 : Int64) (h : k_Mo_rotated_134 ih51 x3 x4 x5 x6 x9 t0 q = some o) : ∀ (H : Heap) (locs : List Loc) (ls : Array Slot), z_wd D (z_M ad ca q) A s H locs → lv_has ls 11 [(0, .ref (ad 0)), (3, .int x3), (4, .int x4), (5, .int x5), (6, .int x6), (9, .int x9)] → W p l e (z_rm 2 49) s m args below meth c H locs 0 0 (z_ql below D (z_Mt ca) (z_M ad ca o.2) A s args o.1) (F0 m 134 ls [.long t0]) := by
  obtain ⟨hx, hb, hr, hlk, hml, hown, hts, hK, hA⟩ := id C0
  intro H locs ls hw hl
  refine lv_lstore (lv' := [(7, .long t0), (0, .ref (ad 0)), (3, .int x3), (4, .int x4), (5, .int x5), (6, .int x6), (9, .int x9)]) hx hb d_Mo_rotated_134 hl (by decide) rfl (fun ls hl => ?_)
  refine lv_aload_n hx hb d_Mo_rotated_136 rfl (lv_at hl 1 rfl) ?_
  refine gfM_0_reg C0 hw fl_Mo_139 d_Mo_rotated_137 ?_
  refine lv_iconst (v := (1 : Int32)) hx hb d_Mo_rotated_140 (by decide) ?_
  refine lv_icmp_le (tgt := 154) hx hb d_Mo_rotated_141 (by decide) (fun c26 => ?_) (fun c26 => ?_)
  · have h := ok_t h c26
    exact w_Mo_rotated_154 o C0 q ih51 hi51 x3 x4 x5 x6 t0 x9 h H locs ls hw (lv_sub hl [1, 2, 3, 4, 5, 0, 6] rfl)
  · have h := ok_f h c26
    refine lv_aload_n hx hb d_Mo_rotated_144 rfl (lv_at hl 1 rfl) ?_
    refine gfM_0_flag C0 hw fl_Mo_21 d_Mo_rotated_145 ?_
    refine lv_iconst (v := (0 : Int32)) hx hb d_Mo_rotated_148 (by decide) ?_
    refine lv_aload_n hx hb d_Mo_rotated_149 rfl (lv_at hl 1 rfl) ?_
    refine gfM_0_went C0 hw fl_Mo_412 d_Mo_rotated_150 ?_
    obtain ⟨b28, h⟩ := ok_g h
    refine asM_4 C0 hw b28 d_Mo_rotated_153 (fun H locs hw => ?_)
    obtain ⟨q29, eq29, h⟩ := ok_n h
    rw [← eq29] at hw
    exact w_Mo_rotated_154 o C0 q29 ih51 hi51 x3 x4 x5 x6 t0 x9 h H locs ls hw (lv_sub hl [1, 2, 3, 4, 5, 0, 6] rfl)
set_option maxHeartbeats 4000000 in
set_option maxRecDepth 100000 in
theorem w_Mo_rotated_104 {p : Program} {l : Launch} {e : Env} {s : State} {m : MethodId} {args : Array Value} {below : List Frame} {meth : Method} {c : Code} {D : va_G} {A : Nat → Prop} {ad : Nat → Nat} {ca : Nat → ClassId} (o : (Int64 × z_Sg)) (C0 : z_cx z_RMo b_Mo_rotated 11 (some .long) D (z_Mt ca) A p s m args meth c) (q : z_Sg) (ih51 : Int32 × Int32 × Int32 × Int32 × Int64 × Int32 × z_Sg → Option (Int64 × z_Sg)) (hi51 : ∀ a : Int32 × Int32 × Int32 × Int32 × Int64 × Int32 × z_Sg, ih51 a = some o → ∀ (H : Heap) (locs : List Loc) (ls : Array Slot), z_wd D (z_M ad ca a.2.2.2.2.2.2) A s H locs → lv_has ls 11 [(0, .ref (ad 0)), (3, .int a.1), (4, .int a.2.1), (5, .int a.2.2.1), (6, .int a.2.2.2.1), (7, .long a.2.2.2.2.1), (9, .int a.2.2.2.2.2.1)] → W p l e (z_rm 2 49) s m args below meth c H locs 0 0 (z_ql below D (z_Mt ca) (z_M ad ca o.2) A s args o.1) (F0 m 51 ls [])) (x3 : Int32) (x4 : Int32) (x5 : Int32) (x6 : Int32) (x7 : Int64) (x9 : Int32) (t0 : Int32) (h : k_Mo_rotated_104 ih51 x3 x4 x5 x6 x7 x9 t0 q = some o) : ∀ (H : Heap) (locs : List Loc) (ls : Array Slot), z_wd D (z_M ad ca q) A s H locs → lv_has ls 11 [(0, .ref (ad 0)), (3, .int x3), (4, .int x4), (5, .int x5), (6, .int x6), (7, .long x7), (9, .int x9)] → W p l e (z_rm 2 49) s m args below meth c H locs 0 0 (z_ql below D (z_Mt ca) (z_M ad ca o.2) A s args o.1) (F0 m 104 ls [.int t0]) := by
  obtain ⟨hx, hb, hr, hlk, hml, hown, hts, hK, hA⟩ := id C0
  intro H locs ls hw hl
  refine lv_istore (lv' := [(10, .int t0), (0, .ref (ad 0)), (3, .int x3), (4, .int x4), (5, .int x5), (6, .int x6), (7, .long x7), (9, .int x9)]) hx hb d_Mo_rotated_104 hl (by decide) rfl (fun ls hl => ?_)
  refine lv_iload hx hb d_Mo_rotated_106 (lv_at hl 4 rfl) ?_
  refine lv_if_eq (tgt := 124) hx hb d_Mo_rotated_108 (by decide) (fun c24 => ?_) (fun c24 => ?_)
  · have h := ok_t h c24
    refine lv_aload_n hx hb d_Mo_rotated_124 rfl (lv_at hl 1 rfl) ?_
    refine lv_lload hx hb d_Mo_rotated_125 (lv_at hl 6 rfl) ?_
    refine lv_iload hx hb d_Mo_rotated_127 (lv_at hl 0 rfl) ?_
    refine lv_iload hx hb d_Mo_rotated_129 (lv_at hl 3 rfl) ?_
    obtain ⟨r25, er25, h⟩ := ok_b h
    refine z_vl (rest := []) C0 hw (c_Mo_rightBy x7 t0 x4 q r25 er25) mw_Mo_rightBy ml_Mo_419 0 rfl ⟨Nat.le_of_ble_eq_true rfl, Nat.le_of_ble_eq_true rfl⟩ ⟨Nat.le_refl 0, Nat.le_refl 0⟩ rfl hl.1 rfl (Nat.le_of_ble_eq_true rfl) d_Mo_rotated_131 (fun H locs hw => ?_)
    exact w_Mo_rotated_134 o C0 r25.2 ih51 hi51 x3 x4 x5 x6 x9 r25.1 h H locs ls hw (lv_sub hl [1, 2, 3, 4, 5, 7] rfl)
  · have h := ok_f h c24
    refine lv_aload_n hx hb d_Mo_rotated_111 rfl (lv_at hl 1 rfl) ?_
    refine lv_lload hx hb d_Mo_rotated_112 (lv_at hl 6 rfl) ?_
    refine lv_iload hx hb d_Mo_rotated_114 (lv_at hl 0 rfl) ?_
    refine lv_iload hx hb d_Mo_rotated_116 (lv_at hl 3 rfl) ?_
    obtain ⟨r30, er30, h⟩ := ok_b h
    refine z_vl (rest := []) C0 hw (c_Mo_leftBy x7 t0 x4 q r30 er30) mw_Mo_leftBy ml_Mo_415 0 rfl ⟨Nat.le_of_ble_eq_true rfl, Nat.le_of_ble_eq_true rfl⟩ ⟨Nat.le_refl 0, Nat.le_refl 0⟩ rfl hl.1 rfl (Nat.le_of_ble_eq_true rfl) d_Mo_rotated_118 (fun H locs hw => ?_)
    refine lv_goto (tgt := 134) hx hb d_Mo_rotated_121 (by decide) ?_
    exact w_Mo_rotated_134 o C0 r30.2 ih51 hi51 x3 x4 x5 x6 x9 r30.1 h H locs ls hw (lv_sub hl [1, 2, 3, 4, 5, 7] rfl)
set_option maxHeartbeats 4000000 in
set_option maxRecDepth 100000 in
theorem wb_Mo_rotated_51 {p : Program} {l : Launch} {e : Env} {s : State} {m : MethodId} {args : Array Value} {below : List Frame} {meth : Method} {c : Code} {D : va_G} {A : Nat → Prop} {ad : Nat → Nat} {ca : Nat → ClassId} (o : (Int64 × z_Sg)) (C0 : z_cx z_RMo b_Mo_rotated 11 (some .long) D (z_Mt ca) A p s m args meth c) (q : z_Sg) (ih51 : Int32 × Int32 × Int32 × Int32 × Int64 × Int32 × z_Sg → Option (Int64 × z_Sg)) (hi51 : ∀ a : Int32 × Int32 × Int32 × Int32 × Int64 × Int32 × z_Sg, ih51 a = some o → ∀ (H : Heap) (locs : List Loc) (ls : Array Slot), z_wd D (z_M ad ca a.2.2.2.2.2.2) A s H locs → lv_has ls 11 [(0, .ref (ad 0)), (3, .int a.1), (4, .int a.2.1), (5, .int a.2.2.1), (6, .int a.2.2.2.1), (7, .long a.2.2.2.2.1), (9, .int a.2.2.2.2.2.1)] → W p l e (z_rm 2 49) s m args below meth c H locs 0 0 (z_ql below D (z_Mt ca) (z_M ad ca o.2) A s args o.1) (F0 m 51 ls [])) (x3 : Int32) (x4 : Int32) (x5 : Int32) (x6 : Int32) (x7 : Int64) (x9 : Int32) (h : kb_Mo_rotated_51 ih51 x3 x4 x5 x6 x7 x9 q = some o) : ∀ (H : Heap) (locs : List Loc) (ls : Array Slot), z_wd D (z_M ad ca q) A s H locs → lv_has ls 11 [(0, .ref (ad 0)), (3, .int x3), (4, .int x4), (5, .int x5), (6, .int x6), (7, .long x7), (9, .int x9)] → W p l e (z_rm 2 49) s m args below meth c H locs 0 0 (z_ql below D (z_Mt ca) (z_M ad ca o.2) A s args o.1) (F0 m 51 ls []) := by
  obtain ⟨hx, hb, hr, hlk, hml, hown, hts, hK, hA⟩ := id C0
  intro H locs ls hw hl
  refine lv_iload hx hb d_Mo_rotated_51 (lv_at hl 6 rfl) ?_
  refine lv_iload hx hb d_Mo_rotated_53 (lv_at hl 4 rfl) ?_
  refine lv_icmp_ge (tgt := 160) hx hb d_Mo_rotated_55 (by decide) (fun c3 => ?_) (fun c3 => ?_)
  · have h := ok_t h c3
    refine lv_aload_n hx hb d_Mo_rotated_160 rfl (lv_at hl 0 rfl) ?_
    refine gfM_0_reg C0 hw fl_Mo_139 d_Mo_rotated_161 ?_
    refine lv_if_ne (tgt := 187) hx hb d_Mo_rotated_164 (by decide) (fun c4 => ?_) (fun c4 => ?_)
    · have h := ok_f h c4
      exact w_Mo_rotated_187 o C0 q x3 x4 x5 x7 h H locs ls hw (lv_sub hl [0, 1, 2, 3, 5] rfl)
    · have h := ok_t h c4
      refine lv_aload_n hx hb d_Mo_rotated_167 rfl (lv_at hl 0 rfl) ?_
      refine gfM_0_flag C0 hw fl_Mo_21 d_Mo_rotated_168 ?_
      refine lv_iconst (v := (0 : Int32)) hx hb d_Mo_rotated_171 (by decide) ?_
      refine lv_lload hx hb d_Mo_rotated_172 (lv_at hl 5 rfl) ?_
      refine lv_lconst (v := (1 : Int64)) hx hb d_Mo_rotated_174 (by decide) ?_
      refine lv_land hx hb d_Mo_rotated_175 ?_
      refine lv_lconst (v := (1 : Int64)) hx hb d_Mo_rotated_176 (by decide) ?_
      refine W.lcmp hx hb d_Mo_rotated_177 ?_
      refine lv_if_ne (tgt := 185) hx hb d_Mo_rotated_178 (by decide) (fun c18 => ?_) (fun c18 => ?_)
      · have h := ok_f h (fun z => c18 ((lg_cmp_eq _ _).mpr z))
        refine lv_iconst (v := (0 : Int32)) hx hb d_Mo_rotated_185 (by decide) ?_
        exact w_Mo_rotated_186 o C0 q x3 x4 x5 x7 (0 : Int32) (0 : Int32) h H locs ls hw (lv_sub hl [0, 1, 2, 3, 5] rfl)
      · have h := ok_t h ((lg_cmp_eq _ _).mp c18)
        refine lv_iconst (v := (1 : Int32)) hx hb d_Mo_rotated_181 (by decide) ?_
        refine lv_goto (tgt := 186) hx hb d_Mo_rotated_182 (by decide) ?_
        exact w_Mo_rotated_186 o C0 q x3 x4 x5 x7 (0 : Int32) (1 : Int32) h H locs ls hw (lv_sub hl [0, 1, 2, 3, 5] rfl)
  · have h := ok_f h c3
    refine lv_aload_n hx hb d_Mo_rotated_58 rfl (lv_at hl 0 rfl) ?_
    refine gfM_0_reg C0 hw fl_Mo_139 d_Mo_rotated_59 ?_
    refine lv_iconst (v := (1 : Int32)) hx hb d_Mo_rotated_62 (by decide) ?_
    refine lv_icmp_le (tgt := 75) hx hb d_Mo_rotated_63 (by decide) (fun c21 => ?_) (fun c21 => ?_)
    · have h := ok_t h c21
      refine lv_iload hx hb d_Mo_rotated_75 (lv_at hl 3 rfl) ?_
      refine lv_if_eq (tgt := 90) hx hb d_Mo_rotated_77 (by decide) (fun c22 => ?_) (fun c22 => ?_)
      · have h := ok_t h c22
        refine lv_lload hx hb d_Mo_rotated_90 (lv_at hl 5 rfl) ?_
        refine lv_lconst (v := (1 : Int64)) hx hb d_Mo_rotated_92 (by decide) ?_
        refine lv_land hx hb d_Mo_rotated_93 ?_
        refine lv_lconst (v := (1 : Int64)) hx hb d_Mo_rotated_94 (by decide) ?_
        refine W.lcmp hx hb d_Mo_rotated_95 ?_
        refine lv_if_ne (tgt := 103) hx hb d_Mo_rotated_96 (by decide) (fun c23 => ?_) (fun c23 => ?_)
        · have h := ok_f h (fun z => c23 ((lg_cmp_eq _ _).mpr z))
          refine lv_iconst (v := (0 : Int32)) hx hb d_Mo_rotated_103 (by decide) ?_
          exact w_Mo_rotated_104 o C0 q ih51 hi51 x3 x4 x5 x6 x7 x9 (0 : Int32) h H locs ls hw (lv_sub hl [0, 1, 2, 3, 4, 5, 6] rfl)
        · have h := ok_t h ((lg_cmp_eq _ _).mp c23)
          refine lv_iconst (v := (1 : Int32)) hx hb d_Mo_rotated_99 (by decide) ?_
          refine lv_goto (tgt := 104) hx hb d_Mo_rotated_100 (by decide) ?_
          exact w_Mo_rotated_104 o C0 q ih51 hi51 x3 x4 x5 x6 x7 x9 (1 : Int32) h H locs ls hw (lv_sub hl [0, 1, 2, 3, 4, 5, 6] rfl)
      · have h := ok_f h c22
        refine lv_lload hx hb d_Mo_rotated_80 (lv_at hl 5 rfl) ?_
        refine lv_iload hx hb d_Mo_rotated_82 (lv_at hl 2 rfl) ?_
        obtain ⟨r31, er31, h⟩ := ok_b h
        refine z_si (rest := []) C0 hw (c_Mo_top x7 x4 q r31 er31) mw_Mo_top ml_Mo_212 ⟨Nat.le_of_ble_eq_true rfl, Nat.le_of_ble_eq_true rfl⟩ ⟨Nat.le_refl 0, Nat.le_refl 0⟩ rfl hl.1 rfl (Nat.le_of_ble_eq_true rfl) d_Mo_rotated_84 (fun H locs hw => ?_)
        refine lv_goto (tgt := 104) hx hb d_Mo_rotated_87 (by decide) ?_
        exact w_Mo_rotated_104 o C0 q ih51 hi51 x3 x4 x5 x6 x7 x9 r31 h H locs ls hw (lv_sub hl [0, 1, 2, 3, 4, 5, 6] rfl)
    · have h := ok_f h c21
      refine lv_aload_n hx hb d_Mo_rotated_66 rfl (lv_at hl 0 rfl) ?_
      refine gfM_0_flag C0 hw fl_Mo_21 d_Mo_rotated_67 ?_
      refine lv_iconst (v := (0 : Int32)) hx hb d_Mo_rotated_70 (by decide) ?_
      obtain ⟨b32, h⟩ := ok_g h
      refine alM_4 C0 hw b32 d_Mo_rotated_71 ?_
      refine lv_goto (tgt := 104) hx hb d_Mo_rotated_72 (by decide) ?_
      exact w_Mo_rotated_104 o C0 q ih51 hi51 x3 x4 x5 x6 x7 x9 (z_gN q 1 (0 : Int32).toNatClampNeg) h H locs ls hw (lv_sub hl [0, 1, 2, 3, 4, 5, 6] rfl)
theorem w_Mo_rotated_51 {p : Program} {l : Launch} {e : Env} {s : State} {m : MethodId} {args : Array Value} {below : List Frame} {meth : Method} {c : Code} {D : va_G} {A : Nat → Prop} {ad : Nat → Nat} {ca : Nat → ClassId} (o : (Int64 × z_Sg)) (C0 : z_cx z_RMo b_Mo_rotated 11 (some .long) D (z_Mt ca) A p s m args meth c) (q : z_Sg) (x3 : Int32) (x4 : Int32) (x5 : Int32) (x6 : Int32) (x7 : Int64) (x9 : Int32) (h : k_Mo_rotated_51 x3 x4 x5 x6 x7 x9 q = some o) : ∀ (H : Heap) (locs : List Loc) (ls : Array Slot), z_wd D (z_M ad ca q) A s H locs → lv_has ls 11 [(0, .ref (ad 0)), (3, .int x3), (4, .int x4), (5, .int x5), (6, .int x6), (7, .long x7), (9, .int x9)] → W p l e (z_rm 2 49) s m args below meth c H locs 0 0 (z_ql below D (z_Mt ca) (z_M ad ca o.2) A s args o.1) (F0 m 51 ls []) := by
  have key : ∀ (n : Nat) (a : Int32 × Int32 × Int32 × Int32 × Int64 × Int32 × z_Sg), z_lo (fun ih51 a => kb_Mo_rotated_51 ih51 a.1 a.2.1 a.2.2.1 a.2.2.2.1 a.2.2.2.2.1 a.2.2.2.2.2.1 a.2.2.2.2.2.2) n a = some o → ∀ (H : Heap) (locs : List Loc) (ls : Array Slot), z_wd D (z_M ad ca a.2.2.2.2.2.2) A s H locs → lv_has ls 11 [(0, .ref (ad 0)), (3, .int a.1), (4, .int a.2.1), (5, .int a.2.2.1), (6, .int a.2.2.2.1), (7, .long a.2.2.2.2.1), (9, .int a.2.2.2.2.2.1)] → W p l e (z_rm 2 49) s m args below meth c H locs 0 0 (z_ql below D (z_Mt ca) (z_M ad ca o.2) A s args o.1) (F0 m 51 ls []) := by
    intro n
    induction n with
    | zero => intro a h; cases h
    | succ n ih => exact fun a h => wb_Mo_rotated_51 o C0 a.2.2.2.2.2.2 (z_lo (fun ih51 a => kb_Mo_rotated_51 ih51 a.1 a.2.1 a.2.2.1 a.2.2.2.1 a.2.2.2.2.1 a.2.2.2.2.2.1 a.2.2.2.2.2.2) n) ih a.1 a.2.1 a.2.2.1 a.2.2.2.1 a.2.2.2.2.1 a.2.2.2.2.2.1 h
  exact key 2000 (x3, x4, x5, x6, x7, x9, q) h
set_option maxHeartbeats 4000000 in
set_option maxRecDepth 100000 in
theorem w_Mo_rotated_43 {p : Program} {l : Launch} {e : Env} {s : State} {m : MethodId} {args : Array Value} {below : List Frame} {meth : Method} {c : Code} {D : va_G} {A : Nat → Prop} {ad : Nat → Nat} {ca : Nat → ClassId} (o : (Int64 × z_Sg)) (C0 : z_cx z_RMo b_Mo_rotated 11 (some .long) D (z_Mt ca) A p s m args meth c) (q : z_Sg) (x1 : Int64) (x3 : Int32) (x4 : Int32) (x5 : Int32) (t0 : Int32) (h : k_Mo_rotated_43 x1 x3 x4 x5 t0 q = some o) : ∀ (H : Heap) (locs : List Loc) (ls : Array Slot), z_wd D (z_M ad ca q) A s H locs → lv_has ls 11 [(0, .ref (ad 0)), (1, .long x1), (3, .int x3), (4, .int x4), (5, .int x5)] → W p l e (z_rm 2 49) s m args below meth c H locs 0 0 (z_ql below D (z_Mt ca) (z_M ad ca o.2) A s args o.1) (F0 m 43 ls [.int t0]) := by
  obtain ⟨hx, hb, hr, hlk, hml, hown, hts, hK, hA⟩ := id C0
  intro H locs ls hw hl
  refine lv_istore (lv' := [(6, .int t0), (0, .ref (ad 0)), (1, .long x1), (3, .int x3), (4, .int x4), (5, .int x5)]) hx hb d_Mo_rotated_43 hl (by decide) rfl (fun ls hl => ?_)
  refine lv_lload_n hx hb d_Mo_rotated_45 rfl (lv_at hl 2 rfl) ?_
  refine lv_lstore (lv' := [(7, .long x1), (6, .int t0), (0, .ref (ad 0)), (1, .long x1), (3, .int x3), (4, .int x4), (5, .int x5)]) hx hb d_Mo_rotated_46 hl (by decide) rfl (fun ls hl => ?_)
  refine lv_iconst (v := (0 : Int32)) hx hb d_Mo_rotated_48 (by decide) ?_
  refine lv_istore (lv' := [(9, .int (0 : Int32)), (7, .long x1), (6, .int t0), (0, .ref (ad 0)), (1, .long x1), (3, .int x3), (4, .int x4), (5, .int x5)]) hx hb d_Mo_rotated_49 hl (by decide) rfl (fun ls hl => ?_)
  exact w_Mo_rotated_51 o C0 q x3 x4 x5 t0 x1 (0 : Int32) h H locs ls hw (lv_sub hl [3, 5, 6, 7, 2, 1, 0] rfl)
set_option maxHeartbeats 4000000 in
set_option maxRecDepth 100000 in
theorem w_Mo_rotated_42 {p : Program} {l : Launch} {e : Env} {s : State} {m : MethodId} {args : Array Value} {below : List Frame} {meth : Method} {c : Code} {D : va_G} {A : Nat → Prop} {ad : Nat → Nat} {ca : Nat → ClassId} (o : (Int64 × z_Sg)) (C0 : z_cx z_RMo b_Mo_rotated 11 (some .long) D (z_Mt ca) A p s m args meth c) (q : z_Sg) (x1 : Int64) (x3 : Int32) (x4 : Int32) (x5 : Int32) (h : k_Mo_rotated_42 x1 x3 x4 x5 q = some o) : ∀ (H : Heap) (locs : List Loc) (ls : Array Slot), z_wd D (z_M ad ca q) A s H locs → lv_has ls 11 [(0, .ref (ad 0)), (1, .long x1), (3, .int x3), (4, .int x4), (5, .int x5)] → W p l e (z_rm 2 49) s m args below meth c H locs 0 0 (z_ql below D (z_Mt ca) (z_M ad ca o.2) A s args o.1) (F0 m 42 ls []) := by
  obtain ⟨hx, hb, hr, hlk, hml, hown, hts, hK, hA⟩ := id C0
  intro H locs ls hw hl
  refine lv_iload_n hx hb d_Mo_rotated_42 rfl (lv_at hl 2 rfl) ?_
  exact w_Mo_rotated_43 o C0 q x1 x3 x4 x5 x3 h H locs ls hw (lv_sub hl [0, 1, 2, 3, 4] rfl)
set_option maxHeartbeats 4000000 in
set_option maxRecDepth 100000 in
theorem w_Mo_rotated_14 {p : Program} {l : Launch} {e : Env} {s : State} {m : MethodId} {args : Array Value} {below : List Frame} {meth : Method} {c : Code} {D : va_G} {A : Nat → Prop} {ad : Nat → Nat} {ca : Nat → ClassId} (o : (Int64 × z_Sg)) (C0 : z_cx z_RMo b_Mo_rotated 11 (some .long) D (z_Mt ca) A p s m args meth c) (q : z_Sg) (x1 : Int64) (x3 : Int32) (x4 : Int32) (t0 : Int32) (h : k_Mo_rotated_14 x1 x3 x4 t0 q = some o) : ∀ (H : Heap) (locs : List Loc) (ls : Array Slot), z_wd D (z_M ad ca q) A s H locs → lv_has ls 11 [(0, .ref (ad 0)), (1, .long x1), (3, .int x3), (4, .int x4)] → W p l e (z_rm 2 49) s m args below meth c H locs 0 0 (z_ql below D (z_Mt ca) (z_M ad ca o.2) A s args o.1) (F0 m 14 ls [.int t0]) := by
  obtain ⟨hx, hb, hr, hlk, hml, hown, hts, hK, hA⟩ := id C0
  intro H locs ls hw hl
  refine lv_istore (lv' := [(5, .int t0), (0, .ref (ad 0)), (1, .long x1), (3, .int x3), (4, .int x4)]) hx hb d_Mo_rotated_14 hl (by decide) rfl (fun ls hl => ?_)
  refine lv_aload_n hx hb d_Mo_rotated_16 rfl (lv_at hl 1 rfl) ?_
  refine gfM_0_reg C0 hw fl_Mo_139 d_Mo_rotated_17 ?_
  refine lv_iconst (v := (1 : Int32)) hx hb d_Mo_rotated_20 (by decide) ?_
  refine lv_icmp_le (tgt := 42) hx hb d_Mo_rotated_21 (by decide) (fun c2 => ?_) (fun c2 => ?_)
  · have h := ok_t h c2
    exact w_Mo_rotated_42 o C0 q x1 x3 x4 t0 h H locs ls hw (lv_sub hl [1, 2, 3, 4, 0] rfl)
  · have h := ok_f h c2
    refine lv_iload hx hb d_Mo_rotated_24 (lv_at hl 4 rfl) ?_
    refine lv_iconst (v := (4 : Int32)) hx hb d_Mo_rotated_26 (by decide) ?_
    refine lv_icmp_ge (tgt := 42) hx hb d_Mo_rotated_27 (by decide) (fun c33 => ?_) (fun c33 => ?_)
    · have h := ok_t h c33
      exact w_Mo_rotated_42 o C0 q x1 x3 x4 t0 h H locs ls hw (lv_sub hl [1, 2, 3, 4, 0] rfl)
    · have h := ok_f h c33
      refine lv_iload_n hx hb d_Mo_rotated_30 rfl (lv_at hl 3 rfl) ?_
      refine lv_bipush (v := (8 : Int32)) hx hb d_Mo_rotated_31 (by decide) ?_
      refine lv_iload hx hb d_Mo_rotated_33 (lv_at hl 4 rfl) ?_
      refine lv_imul hx hb d_Mo_rotated_35 ?_
      refine lv_iconst (v := (1 : Int32)) hx hb d_Mo_rotated_36 (by decide) ?_
      refine lv_iadd hx hb d_Mo_rotated_37 ?_
      obtain ⟨b34, h⟩ := ok_g h
      refine lv_irem hx hb d_Mo_rotated_38 b34 ?_
      refine lv_goto (tgt := 43) hx hb d_Mo_rotated_39 (by decide) ?_
      exact w_Mo_rotated_43 o C0 q x1 x3 x4 t0 (x3 - x3 / (((8 : Int32) * x4) + (1 : Int32)) * (((8 : Int32) * x4) + (1 : Int32))) h H locs ls hw (lv_sub hl [1, 2, 3, 4, 0] rfl)
set_option maxHeartbeats 4000000 in
set_option maxRecDepth 100000 in
theorem c_Mo_rotated {l : Launch} {D : va_G} {ad : Nat → Nat} {ca : Nat → ClassId} (x1 : Int64) (x3 : Int32) (x4 : Int32) (q : z_Sg) (o : (Int64 × z_Sg)) (h : f_Mo_rotated x1 x3 x4 q = some o) : z_cl l y_Mo_rotated b_Mo_rotated 11 (some .long) 2 49 D (z_Mt ca) (z_M ad ca q) (z_M ad ca o.2) [.ref (ad 0), .long x1, .int x3, .int x4] o.1 := by
  refine z_cl_of (own := z_RMo) (by decide) rfl ?_
  intro p e s m below meth c A C0 hw
  obtain ⟨hx, hb, hr, hlk, hml, hown, hts, hK, hA⟩ := id C0
  generalize hH : s.heap = H at hw ⊢
  generalize hlo : ([] : List Loc) = locs at hw ⊢
  refine z_entry (lv := [(0, .ref (ad 0)), (1, .long x1), (3, .int x3), (4, .int x4)]) (Nat.le_of_ble_eq_true rfl) rfl (fun ls hl => ?_)
  unfold f_Mo_rotated at h
  refine lv_aload_n hx hb d_Mo_rotated_0 rfl (lv_at hl 0 rfl) ?_
  refine gfM_0_reg C0 hw fl_Mo_139 d_Mo_rotated_1 ?_
  refine lv_iconst (v := (2 : Int32)) hx hb d_Mo_rotated_4 (by decide) ?_
  refine lv_irem hx hb d_Mo_rotated_5 (by decide) ?_
  refine lv_if_ne (tgt := 13) hx hb d_Mo_rotated_6 (by decide) (fun c1 => ?_) (fun c1 => ?_)
  · have h := ok_f h c1
    refine lv_iconst (v := (0 : Int32)) hx hb d_Mo_rotated_13 (by decide) ?_
    exact w_Mo_rotated_14 o C0 q x1 x3 x4 (0 : Int32) h H locs ls hw (lv_sub hl [0, 1, 2, 3] rfl)
  · have h := ok_t h c1
    refine lv_iconst (v := (1 : Int32)) hx hb d_Mo_rotated_9 (by decide) ?_
    refine lv_goto (tgt := 14) hx hb d_Mo_rotated_10 (by decide) ?_
    exact w_Mo_rotated_14 o C0 q x1 x3 x4 (1 : Int32) h H locs ls hw (lv_sub hl [0, 1, 2, 3] rfl)
def k_Mo_shift_148 (x2 : Int32) (x7 : Int64) (q : z_Sg) : Option z_Sg :=
  (f_Mo_setE x2 x7 q).bind (fun r14 => some r14)
def k_Mo_shift_146 (x2 : Int32) (t0 : Int64) (q : z_Sg) : Option z_Sg :=
  k_Mo_shift_148 x2 t0 q
def k_Mo_shift_88 (x2 : Int32) (t0 : Int32) (t1 : Int32) (q : z_Sg) : Option z_Sg :=
  if t1 = 0 then none else (z_nm ((t0 - t0 / t1 * t1)) (fun n10 => (f_Mo_e x2 (1 : Int32) q).bind (fun r11 => if (z_gI r11.2 4) = (-1 : Int32) then (if n10 ≤ 0 then (k_Mo_shift_148 x2 r11.1 r11.2) else (if (4 : Int32) ≤ (z_gI r11.2 8) then ((f_Mo_shifted r11.1 n10 x2 r11.2).bind (fun r16 => k_Mo_shift_146 x2 r16.1 r16.2)) else ((f_Mo_rotated r11.1 n10 x2 r11.2).bind (fun r17 => k_Mo_shift_146 x2 r17.1 r17.2)))) else (some r11.2))))
def k_Mo_shift_59 (x2 : Int32) (t0 : Int32) (q : z_Sg) : Option z_Sg :=
  z_nm (z_sL q 7 ((z_gL q 0) + ((z_gI q 6).toInt64))) (fun q7 => if x2 = (8 : Int32) then (k_Mo_shift_88 x2 t0 (64 : Int32) q7) else (k_Mo_shift_88 x2 t0 (32 : Int32) q7))
def k_Mo_shift_19 (x1 : Int32) (x2 : Int32) (q : z_Sg) : Option z_Sg :=
  (f_Mo_takePlace q).bind (fun r3 => if (208 : Int32) ≤ x1 then (if (210 : Int32) ≤ x1 then (if z_bad (1 : Int32) 16 then none else (k_Mo_shift_59 x2 (((z_gM r3 0 (1 : Int32).toNatClampNeg) &&& (255 : Int64)).toInt32) r3)) else (k_Mo_shift_59 x2 (1 : Int32) r3)) else ((f_Mo_fetch r3).bind (fun r18 => k_Mo_shift_59 x2 r18.1 r18.2)))
def f_Mo_shift (x1 : Int32) (x2 : Int32) (q : z_Sg) : Option z_Sg :=
  (f_Mo_takeMod q).bind (fun r1 => if (z_gI r1 8) = (6 : Int32) then ((f_Mo_refuse (6 : Int32) r1).bind (fun r19 => k_Mo_shift_19 x1 x2 r19)) else (k_Mo_shift_19 x1 x2 r1))
set_option maxHeartbeats 4000000 in
set_option maxRecDepth 100000 in
theorem w_Mo_shift_148 {p : Program} {l : Launch} {e : Env} {s : State} {m : MethodId} {args : Array Value} {below : List Frame} {meth : Method} {c : Code} {D : va_G} {A : Nat → Prop} {ad : Nat → Nat} {ca : Nat → ClassId} (o : z_Sg) (C0 : z_cx z_RMo b_Mo_shift 9 none D (z_Mt ca) A p s m args meth c) (q : z_Sg) (x2 : Int32) (x7 : Int64) (h : k_Mo_shift_148 x2 x7 q = some o) : ∀ (H : Heap) (locs : List Loc) (ls : Array Slot), z_wd D (z_M ad ca q) A s H locs → lv_has ls 9 [(0, .ref (ad 0)), (2, .int x2), (7, .long x7)] → W p l e (z_rm 7 173) s m args below meth c H locs 0 0 (z_qv below D (z_Mt ca) (z_M ad ca o) A s args) (F0 m 148 ls []) := by
  obtain ⟨hx, hb, hr, hlk, hml, hown, hts, hK, hA⟩ := id C0
  intro H locs ls hw hl
  refine lv_aload_n hx hb d_Mo_shift_148 rfl (lv_at hl 0 rfl) ?_
  refine lv_iload_n hx hb d_Mo_shift_149 rfl (lv_at hl 1 rfl) ?_
  refine lv_lload hx hb d_Mo_shift_150 (lv_at hl 2 rfl) ?_
  obtain ⟨r14, er14, h⟩ := ok_b h
  refine z_vv (rest := []) C0 hw (c_Mo_setE x2 x7 q r14 er14) mw_Mo_setE ml_Mo_348 0 rfl ⟨Nat.le_of_ble_eq_true rfl, Nat.le_of_ble_eq_true rfl⟩ ⟨Nat.le_refl 0, Nat.le_refl 0⟩ rfl hl.1 rfl (Nat.le_of_ble_eq_true rfl) d_Mo_shift_152 (fun H locs hw => ?_)
  have ho := Option.some.inj h
  subst ho
  exact z_rtv C0 hw d_Mo_shift_155
set_option maxHeartbeats 4000000 in
set_option maxRecDepth 100000 in
theorem w_Mo_shift_146 {p : Program} {l : Launch} {e : Env} {s : State} {m : MethodId} {args : Array Value} {below : List Frame} {meth : Method} {c : Code} {D : va_G} {A : Nat → Prop} {ad : Nat → Nat} {ca : Nat → ClassId} (o : z_Sg) (C0 : z_cx z_RMo b_Mo_shift 9 none D (z_Mt ca) A p s m args meth c) (q : z_Sg) (x2 : Int32) (t0 : Int64) (h : k_Mo_shift_146 x2 t0 q = some o) : ∀ (H : Heap) (locs : List Loc) (ls : Array Slot), z_wd D (z_M ad ca q) A s H locs → lv_has ls 9 [(0, .ref (ad 0)), (2, .int x2)] → W p l e (z_rm 7 173) s m args below meth c H locs 0 0 (z_qv below D (z_Mt ca) (z_M ad ca o) A s args) (F0 m 146 ls [.long t0]) := by
  obtain ⟨hx, hb, hr, hlk, hml, hown, hts, hK, hA⟩ := id C0
  intro H locs ls hw hl
  refine lv_lstore (lv' := [(7, .long t0), (0, .ref (ad 0)), (2, .int x2)]) hx hb d_Mo_shift_146 hl (by decide) rfl (fun ls hl => ?_)
  exact w_Mo_shift_148 o C0 q x2 t0 h H locs ls hw (lv_sub hl [1, 2, 0] rfl)
set_option maxHeartbeats 4000000 in
set_option maxRecDepth 100000 in
theorem w_Mo_shift_88 {p : Program} {l : Launch} {e : Env} {s : State} {m : MethodId} {args : Array Value} {below : List Frame} {meth : Method} {c : Code} {D : va_G} {A : Nat → Prop} {ad : Nat → Nat} {ca : Nat → ClassId} (o : z_Sg) (C0 : z_cx z_RMo b_Mo_shift 9 none D (z_Mt ca) A p s m args meth c) (q : z_Sg) (x2 : Int32) (t0 : Int32) (t1 : Int32) (h : k_Mo_shift_88 x2 t0 t1 q = some o) : ∀ (H : Heap) (locs : List Loc) (ls : Array Slot), z_wd D (z_M ad ca q) A s H locs → lv_has ls 9 [(0, .ref (ad 0)), (2, .int x2)] → W p l e (z_rm 7 173) s m args below meth c H locs 0 0 (z_qv below D (z_Mt ca) (z_M ad ca o) A s args) (F0 m 88 ls [.int t1, .int t0]) := by
  obtain ⟨hx, hb, hr, hlk, hml, hown, hts, hK, hA⟩ := id C0
  intro H locs ls hw hl
  obtain ⟨b9, h⟩ := ok_g h
  refine lv_irem hx hb d_Mo_shift_88 b9 ?_
  obtain ⟨n10, en10, h⟩ := ok_n h
  refine z_ti en10 ?_
  refine lv_istore (lv' := [(4, .int n10), (0, .ref (ad 0)), (2, .int x2)]) hx hb d_Mo_shift_89 hl (by decide) rfl (fun ls hl => ?_)
  refine lv_aload_n hx hb d_Mo_shift_91 rfl (lv_at hl 1 rfl) ?_
  refine lv_iload_n hx hb d_Mo_shift_92 rfl (lv_at hl 2 rfl) ?_
  refine lv_iconst (v := (1 : Int32)) hx hb d_Mo_shift_93 (by decide) ?_
  obtain ⟨r11, er11, h⟩ := ok_b h
  refine z_vl (rest := []) C0 hw (c_Mo_e x2 (1 : Int32) q r11 er11) mw_Mo_e ml_Mo_338 0 rfl ⟨Nat.le_of_ble_eq_true rfl, Nat.le_of_ble_eq_true rfl⟩ ⟨Nat.le_refl 0, Nat.le_refl 0⟩ rfl hl.1 rfl (Nat.le_of_ble_eq_true rfl) d_Mo_shift_94 (fun H locs hw => ?_)
  refine lv_lstore (lv' := [(5, .long r11.1), (4, .int n10), (0, .ref (ad 0)), (2, .int x2)]) hx hb d_Mo_shift_97 hl (by decide) rfl (fun ls hl => ?_)
  refine lv_aload_n hx hb d_Mo_shift_99 rfl (lv_at hl 2 rfl) ?_
  refine gfM_0_refused C0 hw fl_Mo_28 d_Mo_shift_100 ?_
  refine lv_iconst (v := (-1 : Int32)) hx hb d_Mo_shift_103 (by decide) ?_
  refine lv_icmp_eq (tgt := 108) hx hb d_Mo_shift_104 (by decide) (fun c12 => ?_) (fun c12 => ?_)
  · have h := ok_t h c12
    refine lv_lload hx hb d_Mo_shift_108 (lv_at hl 0 rfl) ?_
    refine lv_lstore (lv' := [(7, .long r11.1), (5, .long r11.1), (4, .int n10), (0, .ref (ad 0)), (2, .int x2)]) hx hb d_Mo_shift_110 hl (by decide) rfl (fun ls hl => ?_)
    refine lv_iload hx hb d_Mo_shift_112 (lv_at hl 2 rfl) ?_
    refine lv_if_le (tgt := 148) hx hb d_Mo_shift_114 (by decide) (fun c13 => ?_) (fun c13 => ?_)
    · have h := ok_t h c13
      exact w_Mo_shift_148 o C0 r11.2 x2 r11.1 h H locs ls hw (lv_sub hl [3, 4, 0] rfl)
    · have h := ok_f h c13
      refine lv_aload_n hx hb d_Mo_shift_117 rfl (lv_at hl 3 rfl) ?_
      refine gfM_0_reg C0 hw fl_Mo_139 d_Mo_shift_118 ?_
      refine lv_iconst (v := (4 : Int32)) hx hb d_Mo_shift_121 (by decide) ?_
      refine lv_icmp_ge (tgt := 137) hx hb d_Mo_shift_122 (by decide) (fun c15 => ?_) (fun c15 => ?_)
      · have h := ok_t h c15
        refine lv_aload_n hx hb d_Mo_shift_137 rfl (lv_at hl 3 rfl) ?_
        refine lv_lload hx hb d_Mo_shift_138 (lv_at hl 1 rfl) ?_
        refine lv_iload hx hb d_Mo_shift_140 (lv_at hl 2 rfl) ?_
        refine lv_iload_n hx hb d_Mo_shift_142 rfl (lv_at hl 4 rfl) ?_
        obtain ⟨r16, er16, h⟩ := ok_b h
        refine z_vl (rest := []) C0 hw (c_Mo_shifted r11.1 n10 x2 r11.2 r16 er16) mw_Mo_shifted ml_Mo_409 0 rfl ⟨Nat.le_of_ble_eq_true rfl, Nat.le_of_ble_eq_true rfl⟩ ⟨Nat.le_refl 0, Nat.le_refl 0⟩ rfl hl.1 rfl (Nat.le_of_ble_eq_true rfl) d_Mo_shift_143 (fun H locs hw => ?_)
        exact w_Mo_shift_146 o C0 r16.2 x2 r16.1 h H locs ls hw (lv_sub hl [3, 4] rfl)
      · have h := ok_f h c15
        refine lv_aload_n hx hb d_Mo_shift_125 rfl (lv_at hl 3 rfl) ?_
        refine lv_lload hx hb d_Mo_shift_126 (lv_at hl 1 rfl) ?_
        refine lv_iload hx hb d_Mo_shift_128 (lv_at hl 2 rfl) ?_
        refine lv_iload_n hx hb d_Mo_shift_130 rfl (lv_at hl 4 rfl) ?_
        obtain ⟨r17, er17, h⟩ := ok_b h
        refine z_vl (rest := []) C0 hw (c_Mo_rotated r11.1 n10 x2 r11.2 r17 er17) mw_Mo_rotated ml_Mo_406 0 rfl ⟨Nat.le_of_ble_eq_true rfl, Nat.le_of_ble_eq_true rfl⟩ ⟨Nat.le_refl 0, Nat.le_refl 0⟩ rfl hl.1 rfl (Nat.le_of_ble_eq_true rfl) d_Mo_shift_131 (fun H locs hw => ?_)
        refine lv_goto (tgt := 146) hx hb d_Mo_shift_134 (by decide) ?_
        exact w_Mo_shift_146 o C0 r17.2 x2 r17.1 h H locs ls hw (lv_sub hl [3, 4] rfl)
  · have h := ok_f h c12
    have ho := Option.some.inj h
    subst ho
    exact z_rtv C0 hw d_Mo_shift_107
set_option maxHeartbeats 4000000 in
set_option maxRecDepth 100000 in
theorem w_Mo_shift_59 {p : Program} {l : Launch} {e : Env} {s : State} {m : MethodId} {args : Array Value} {below : List Frame} {meth : Method} {c : Code} {D : va_G} {A : Nat → Prop} {ad : Nat → Nat} {ca : Nat → ClassId} (o : z_Sg) (C0 : z_cx z_RMo b_Mo_shift 9 none D (z_Mt ca) A p s m args meth c) (q : z_Sg) (x2 : Int32) (t0 : Int32) (h : k_Mo_shift_59 x2 t0 q = some o) : ∀ (H : Heap) (locs : List Loc) (ls : Array Slot), z_wd D (z_M ad ca q) A s H locs → lv_has ls 9 [(0, .ref (ad 0)), (2, .int x2)] → W p l e (z_rm 7 173) s m args below meth c H locs 0 0 (z_qv below D (z_Mt ca) (z_M ad ca o) A s args) (F0 m 59 ls [.int t0]) := by
  obtain ⟨hx, hb, hr, hlk, hml, hown, hts, hK, hA⟩ := id C0
  intro H locs ls hw hl
  refine lv_istore_n (lv' := [(3, .int t0), (0, .ref (ad 0)), (2, .int x2)]) hx hb d_Mo_shift_59 rfl hl (by decide) rfl (fun ls hl => ?_)
  refine lv_aload_n hx hb d_Mo_shift_60 rfl (lv_at hl 1 rfl) ?_
  refine lv_aload_n hx hb d_Mo_shift_61 rfl (lv_at hl 1 rfl) ?_
  refine gfM_0_next C0 hw fl_Mo_111 d_Mo_shift_62 ?_
  refine lv_aload_n hx hb d_Mo_shift_65 rfl (lv_at hl 1 rfl) ?_
  refine gfM_0_length C0 hw fl_Mo_108 d_Mo_shift_66 ?_
  refine lv_i2l hx hb d_Mo_shift_69 rfl ?_
  refine lv_ladd hx hb d_Mo_shift_70 ?_
  refine pfM_0_goes C0 hw fl_Mo_173 d_Mo_shift_71 (fun H locs hw => ?_)
  obtain ⟨q7, eq7, h⟩ := ok_n h
  rw [← eq7] at hw
  refine lv_iload_n hx hb d_Mo_shift_74 rfl (lv_at hl 0 rfl) ?_
  refine lv_iload_n hx hb d_Mo_shift_75 rfl (lv_at hl 2 rfl) ?_
  refine lv_bipush (v := (8 : Int32)) hx hb d_Mo_shift_76 (by decide) ?_
  refine lv_icmp_ne (tgt := 86) hx hb d_Mo_shift_78 (by decide) (fun c8 => ?_) (fun c8 => ?_)
  · have h := ok_f h c8
    refine lv_bipush (v := (32 : Int32)) hx hb d_Mo_shift_86 (by decide) ?_
    exact w_Mo_shift_88 o C0 q7 x2 t0 (32 : Int32) h H locs ls hw (lv_sub hl [1, 2] rfl)
  · have h := ok_t h c8
    refine lv_bipush (v := (64 : Int32)) hx hb d_Mo_shift_81 (by decide) ?_
    refine lv_goto (tgt := 88) hx hb d_Mo_shift_83 (by decide) ?_
    exact w_Mo_shift_88 o C0 q7 x2 t0 (64 : Int32) h H locs ls hw (lv_sub hl [1, 2] rfl)
set_option maxHeartbeats 4000000 in
set_option maxRecDepth 100000 in
theorem w_Mo_shift_19 {p : Program} {l : Launch} {e : Env} {s : State} {m : MethodId} {args : Array Value} {below : List Frame} {meth : Method} {c : Code} {D : va_G} {A : Nat → Prop} {ad : Nat → Nat} {ca : Nat → ClassId} (o : z_Sg) (C0 : z_cx z_RMo b_Mo_shift 9 none D (z_Mt ca) A p s m args meth c) (q : z_Sg) (x1 : Int32) (x2 : Int32) (h : k_Mo_shift_19 x1 x2 q = some o) : ∀ (H : Heap) (locs : List Loc) (ls : Array Slot), z_wd D (z_M ad ca q) A s H locs → lv_has ls 9 [(0, .ref (ad 0)), (1, .int x1), (2, .int x2)] → W p l e (z_rm 7 173) s m args below meth c H locs 0 0 (z_qv below D (z_Mt ca) (z_M ad ca o) A s args) (F0 m 19 ls []) := by
  obtain ⟨hx, hb, hr, hlk, hml, hown, hts, hK, hA⟩ := id C0
  intro H locs ls hw hl
  refine lv_aload_n hx hb d_Mo_shift_19 rfl (lv_at hl 0 rfl) ?_
  obtain ⟨r3, er3, h⟩ := ok_b h
  refine z_vv (rest := []) C0 hw (c_Mo_takePlace q r3 er3) mw_Mo_takePlace ml_Mo_170 0 rfl ⟨Nat.le_of_ble_eq_true rfl, Nat.le_of_ble_eq_true rfl⟩ ⟨Nat.le_refl 0, Nat.le_refl 0⟩ rfl hl.1 rfl (Nat.le_of_ble_eq_true rfl) d_Mo_shift_20 (fun H locs hw => ?_)
  refine lv_iload_n hx hb d_Mo_shift_23 rfl (lv_at hl 1 rfl) ?_
  refine lv_sipush (v := (208 : Int32)) hx hb d_Mo_shift_24 (by decide) ?_
  refine lv_icmp_ge (tgt := 37) hx hb d_Mo_shift_27 (by decide) (fun c4 => ?_) (fun c4 => ?_)
  · have h := ok_t h c4
    refine lv_iload_n hx hb d_Mo_shift_37 rfl (lv_at hl 1 rfl) ?_
    refine lv_sipush (v := (210 : Int32)) hx hb d_Mo_shift_38 (by decide) ?_
    refine lv_icmp_ge (tgt := 48) hx hb d_Mo_shift_41 (by decide) (fun c5 => ?_) (fun c5 => ?_)
    · have h := ok_t h c5
      refine lv_aload_n hx hb d_Mo_shift_48 rfl (lv_at hl 0 rfl) ?_
      refine gfM_0_r C0 hw fl_Mo_14 d_Mo_shift_49 ?_
      refine lv_iconst (v := (1 : Int32)) hx hb d_Mo_shift_52 (by decide) ?_
      obtain ⟨b6, h⟩ := ok_g h
      refine alM_2 C0 hw b6 d_Mo_shift_53 ?_
      refine lv_ldc2 (own := z_RMo) hx hb hown (hts _ kl_Mo_106) d_Mo_shift_54 ?_
      refine lv_land hx hb d_Mo_shift_57 ?_
      refine lv_l2i hx hb d_Mo_shift_58 rfl ?_
      exact w_Mo_shift_59 o C0 r3 x2 (((z_gM r3 0 (1 : Int32).toNatClampNeg) &&& (255 : Int64)).toInt32) h H locs ls hw (lv_sub hl [0, 2] rfl)
    · have h := ok_f h c5
      refine lv_iconst (v := (1 : Int32)) hx hb d_Mo_shift_44 (by decide) ?_
      refine lv_goto (tgt := 59) hx hb d_Mo_shift_45 (by decide) ?_
      exact w_Mo_shift_59 o C0 r3 x2 (1 : Int32) h H locs ls hw (lv_sub hl [0, 2] rfl)
  · have h := ok_f h c4
    refine lv_aload_n hx hb d_Mo_shift_30 rfl (lv_at hl 0 rfl) ?_
    obtain ⟨r18, er18, h⟩ := ok_b h
    refine z_vi (rest := []) C0 hw (c_Mo_fetch r3 r18 er18) mw_Mo_fetch ml_Mo_114 0 rfl ⟨Nat.le_of_ble_eq_true rfl, Nat.le_of_ble_eq_true rfl⟩ ⟨Nat.le_refl 0, Nat.le_refl 0⟩ rfl hl.1 rfl (Nat.le_of_ble_eq_true rfl) d_Mo_shift_31 (fun H locs hw => ?_)
    refine lv_goto (tgt := 59) hx hb d_Mo_shift_34 (by decide) ?_
    exact w_Mo_shift_59 o C0 r18.2 x2 r18.1 h H locs ls hw (lv_sub hl [0, 2] rfl)
set_option maxHeartbeats 4000000 in
set_option maxRecDepth 100000 in
theorem c_Mo_shift {l : Launch} {D : va_G} {ad : Nat → Nat} {ca : Nat → ClassId} (x1 : Int32) (x2 : Int32) (q : z_Sg) (o : z_Sg) (h : f_Mo_shift x1 x2 q = some o) : z_cv l y_Mo_shift b_Mo_shift 9 none 7 173 D (z_Mt ca) (z_M ad ca q) (z_M ad ca o) [.ref (ad 0), .int x1, .int x2] := by
  refine z_cv_of (own := z_RMo) (by decide) rfl ?_
  intro p e s m below meth c A C0 hw
  obtain ⟨hx, hb, hr, hlk, hml, hown, hts, hK, hA⟩ := id C0
  generalize hH : s.heap = H at hw ⊢
  generalize hlo : ([] : List Loc) = locs at hw ⊢
  refine z_entry (lv := [(0, .ref (ad 0)), (1, .int x1), (2, .int x2)]) (Nat.le_of_ble_eq_true rfl) rfl (fun ls hl => ?_)
  unfold f_Mo_shift at h
  refine lv_aload_n hx hb d_Mo_shift_0 rfl (lv_at hl 0 rfl) ?_
  obtain ⟨r1, er1, h⟩ := ok_b h
  refine z_vv (rest := []) C0 hw (c_Mo_takeMod q r1 er1) mw_Mo_takeMod ml_Mo_167 0 rfl ⟨Nat.le_of_ble_eq_true rfl, Nat.le_of_ble_eq_true rfl⟩ ⟨Nat.le_refl 0, Nat.le_refl 0⟩ rfl hl.1 rfl (Nat.le_of_ble_eq_true rfl) d_Mo_shift_1 (fun H locs hw => ?_)
  refine lv_aload_n hx hb d_Mo_shift_4 rfl (lv_at hl 0 rfl) ?_
  refine gfM_0_reg C0 hw fl_Mo_139 d_Mo_shift_5 ?_
  refine lv_bipush (v := (6 : Int32)) hx hb d_Mo_shift_8 (by decide) ?_
  refine lv_icmp_ne (tgt := 19) hx hb d_Mo_shift_10 (by decide) (fun c2 => ?_) (fun c2 => ?_)
  · have h := ok_f h c2
    exact w_Mo_shift_19 o C0 r1 x1 x2 h H locs ls hw (lv_sub hl [0, 1, 2] rfl)
  · have h := ok_t h c2
    refine lv_aload_n hx hb d_Mo_shift_13 rfl (lv_at hl 0 rfl) ?_
    refine lv_bipush (v := (6 : Int32)) hx hb d_Mo_shift_14 (by decide) ?_
    obtain ⟨r19, er19, h⟩ := ok_b h
    refine z_vv (rest := []) C0 hw (c_Mo_refuse (6 : Int32) r1 r19 er19) mw_Mo_refuse ml_Mo_81 0 rfl ⟨Nat.le_of_ble_eq_true rfl, Nat.le_of_ble_eq_true rfl⟩ ⟨Nat.le_refl 0, Nat.le_refl 0⟩ rfl hl.1 rfl (Nat.le_of_ble_eq_true rfl) d_Mo_shift_16 (fun H locs hw => ?_)
    exact w_Mo_shift_19 o C0 r19 x1 x2 h H locs ls hw (lv_sub hl [0, 1, 2] rfl)
def k_Mo_quotient_180 (t0 : Int32) (q : z_Sg) : Option (Int32 × z_Sg) :=
  z_gd (z_bo t0) (some (t0, q))
def k_Mo_quotient_179 (q : z_Sg) : Option (Int32 × z_Sg) :=
  k_Mo_quotient_180 (0 : Int32) q
def k_Mo_quotient_175 (q : z_Sg) : Option (Int32 × z_Sg) :=
  k_Mo_quotient_180 (1 : Int32) q
def k_Mo_quotient_132 (ih13 : Int64 × Int32 × Int64 × Int64 × Int64 × Int32 × z_Sg → Option (Int32 × z_Sg)) (x1 : Int64) (x3 : Int32) (x4 : Int64) (x6 : Int64) (x10 : Int32) (t0 : Int64) (t1 : Int64) (q : z_Sg) : Option (Int32 × z_Sg) :=
  z_nm ((t0 ||| t1)) (fun n15 => z_nm (x10 + (-1 : Int32)) (fun n16 => ih13 (x1, x3, x4, x6, n15, n16, q)))
def k_Mo_quotient_106 (ih13 : Int64 × Int32 × Int64 × Int64 × Int64 × Int32 × z_Sg → Option (Int32 × z_Sg)) (x1 : Int64) (x3 : Int32) (x4 : Int64) (x6 : Int64) (x8 : Int64) (x10 : Int32) (x12 : Int32) (q : z_Sg) : Option (Int32 × z_Sg) :=
  z_nm (((z_lshl x6 (1 : Int32)) ||| (z_lushr x8 (63 : Int32)))) (fun n13 => if x12 = 0 then (k_Mo_quotient_132 ih13 x1 x3 x4 n13 x10 (z_lshl x8 (1 : Int32)) (0 : Int64) q) else (k_Mo_quotient_132 ih13 x1 x3 x4 n13 x10 (z_lshl x8 (1 : Int32)) (1 : Int64) q))
def k_Mo_quotient_93 (ih13 : Int64 × Int32 × Int64 × Int64 × Int64 × Int32 × z_Sg → Option (Int32 × z_Sg)) (x1 : Int64) (x3 : Int32) (x4 : Int64) (x6 : Int64) (x8 : Int64) (x10 : Int32) (t0 : Int32) (q : z_Sg) : Option (Int32 × z_Sg) :=
  if t0 = 0 then (k_Mo_quotient_106 ih13 x1 x3 x4 x6 x8 x10 t0 q) else (z_nm ((x4 - x1)) (fun n17 => k_Mo_quotient_106 ih13 x1 x3 n17 x6 x8 x10 t0 q))
def k_Mo_quotient_88 (ih13 : Int64 × Int32 × Int64 × Int64 × Int64 × Int32 × z_Sg → Option (Int32 × z_Sg)) (x1 : Int64) (x3 : Int32) (x4 : Int64) (x6 : Int64) (x8 : Int64) (x10 : Int32) (q : z_Sg) : Option (Int32 × z_Sg) :=
  k_Mo_quotient_93 ih13 x1 x3 x4 x6 x8 x10 (1 : Int32) q
def k_Mo_quotient_63 (ih13 : Int64 × Int32 × Int64 × Int64 × Int64 × Int32 × z_Sg → Option (Int32 × z_Sg)) (x1 : Int64) (x3 : Int32) (x6 : Int64) (x8 : Int64) (x10 : Int32) (x11 : Int32) (t0 : Int64) (t1 : Int64) (q : z_Sg) : Option (Int32 × z_Sg) :=
  z_nm ((t0 ||| (t1 &&& (1 : Int64)))) (fun n10 => if x11 = 0 then (if (n10 + (-9223372036854775808 : Int64)) < (x1 + (-9223372036854775808 : Int64)) then (k_Mo_quotient_93 ih13 x1 x3 n10 x6 x8 x10 (0 : Int32) q) else (k_Mo_quotient_88 ih13 x1 x3 n10 x6 x8 x10 q)) else (k_Mo_quotient_88 ih13 x1 x3 n10 x6 x8 x10 q))
def k_Mo_quotient_30 (ih13 : Int64 × Int32 × Int64 × Int64 × Int64 × Int32 × z_Sg → Option (Int32 × z_Sg)) (x1 : Int64) (x3 : Int32) (x4 : Int64) (x6 : Int64) (x8 : Int64) (x10 : Int32) (t0 : Int32) (q : z_Sg) : Option (Int32 × z_Sg) :=
  if x10 ≤ (63 : Int32) then (k_Mo_quotient_63 ih13 x1 x3 x6 x8 x10 t0 (z_lshl x4 (1 : Int32)) (z_lushr (z_gL q 8) x10) q) else (k_Mo_quotient_63 ih13 x1 x3 x6 x8 x10 t0 (z_lshl x4 (1 : Int32)) (z_lushr (z_gL q 9) (x10 - (64 : Int32))) q)
def kb_Mo_quotient_13 (ih13 : Int64 × Int32 × Int64 × Int64 × Int64 × Int32 × z_Sg → Option (Int32 × z_Sg)) (x1 : Int64) (x3 : Int32) (x4 : Int64) (x6 : Int64) (x8 : Int64) (x10 : Int32) (q : z_Sg) : Option (Int32 × z_Sg) :=
  if x10 < 0 then (z_nm (z_sL q 8 x8) (fun q2 => z_nm (z_sL q2 9 x4) (fun q3 => if x6 = (0 : Int64) then (if x3 = (64 : Int32) then (k_Mo_quotient_175 q3) else (if (z_lushr x8 x3) = (0 : Int64) then (k_Mo_quotient_175 q3) else (k_Mo_quotient_179 q3))) else (k_Mo_quotient_179 q3)))) else (if (0 : Int64) ≤ x4 then (k_Mo_quotient_30 ih13 x1 x3 x4 x6 x8 x10 (0 : Int32) q) else (k_Mo_quotient_30 ih13 x1 x3 x4 x6 x8 x10 (1 : Int32) q))
def k_Mo_quotient_13 (x1 : Int64) (x3 : Int32) (x4 : Int64) (x6 : Int64) (x8 : Int64) (x10 : Int32) (q : z_Sg) : Option (Int32 × z_Sg) := z_lo (fun ih13 a => kb_Mo_quotient_13 ih13 a.1 a.2.1 a.2.2.1 a.2.2.2.1 a.2.2.2.2.1 a.2.2.2.2.2.1 a.2.2.2.2.2.2) 2000 (x1, x3, x4, x6, x8, x10, q)
def f_Mo_quotient (x1 : Int64) (x3 : Int32) (q : z_Sg) : Option (Int32 × z_Sg) :=
  k_Mo_quotient_13 x1 x3 (0 : Int64) (0 : Int64) (0 : Int64) (127 : Int32) q
set_option maxHeartbeats 4000000 in
set_option maxRecDepth 100000 in
theorem w_Mo_quotient_180 {p : Program} {l : Launch} {e : Env} {s : State} {m : MethodId} {args : Array Value} {below : List Frame} {meth : Method} {c : Code} {D : va_G} {A : Nat → Prop} {ad : Nat → Nat} {ca : Nat → ClassId} (o : (Int32 × z_Sg)) (C0 : z_cx z_RMo b_Mo_quotient 13 (some .boolean) D (z_Mt ca) A p s m args meth c) (q : z_Sg) (t0 : Int32) (h : k_Mo_quotient_180 t0 q = some o) : ∀ (H : Heap) (locs : List Loc) (ls : Array Slot), z_wd D (z_M ad ca q) A s H locs → lv_has ls 13 [] → W p l e (z_rm 0 0) s m args below meth c H locs 0 0 (z_qi below D (z_Mt ca) (z_M ad ca o.2) A s args o.1) (F0 m 180 ls [.int t0]) := by
  obtain ⟨hx, hb, hr, hlk, hml, hown, hts, hK, hA⟩ := id C0
  intro H locs ls hw hl
  obtain ⟨b5, h⟩ := ok_G h
  have ho := Option.some.inj h
  subst ho
  exact z_rtz C0 hw (z_bo_n b5) d_Mo_quotient_180
set_option maxHeartbeats 4000000 in
set_option maxRecDepth 100000 in
theorem w_Mo_quotient_179 {p : Program} {l : Launch} {e : Env} {s : State} {m : MethodId} {args : Array Value} {below : List Frame} {meth : Method} {c : Code} {D : va_G} {A : Nat → Prop} {ad : Nat → Nat} {ca : Nat → ClassId} (o : (Int32 × z_Sg)) (C0 : z_cx z_RMo b_Mo_quotient 13 (some .boolean) D (z_Mt ca) A p s m args meth c) (q : z_Sg) (h : k_Mo_quotient_179 q = some o) : ∀ (H : Heap) (locs : List Loc) (ls : Array Slot), z_wd D (z_M ad ca q) A s H locs → lv_has ls 13 [] → W p l e (z_rm 0 0) s m args below meth c H locs 0 0 (z_qi below D (z_Mt ca) (z_M ad ca o.2) A s args o.1) (F0 m 179 ls []) := by
  obtain ⟨hx, hb, hr, hlk, hml, hown, hts, hK, hA⟩ := id C0
  intro H locs ls hw hl
  refine lv_iconst (v := (0 : Int32)) hx hb d_Mo_quotient_179 (by decide) ?_
  exact w_Mo_quotient_180 o C0 q (0 : Int32) h H locs ls hw (lv_sub hl [] rfl)
set_option maxHeartbeats 4000000 in
set_option maxRecDepth 100000 in
theorem w_Mo_quotient_175 {p : Program} {l : Launch} {e : Env} {s : State} {m : MethodId} {args : Array Value} {below : List Frame} {meth : Method} {c : Code} {D : va_G} {A : Nat → Prop} {ad : Nat → Nat} {ca : Nat → ClassId} (o : (Int32 × z_Sg)) (C0 : z_cx z_RMo b_Mo_quotient 13 (some .boolean) D (z_Mt ca) A p s m args meth c) (q : z_Sg) (h : k_Mo_quotient_175 q = some o) : ∀ (H : Heap) (locs : List Loc) (ls : Array Slot), z_wd D (z_M ad ca q) A s H locs → lv_has ls 13 [] → W p l e (z_rm 0 0) s m args below meth c H locs 0 0 (z_qi below D (z_Mt ca) (z_M ad ca o.2) A s args o.1) (F0 m 175 ls []) := by
  obtain ⟨hx, hb, hr, hlk, hml, hown, hts, hK, hA⟩ := id C0
  intro H locs ls hw hl
  refine lv_iconst (v := (1 : Int32)) hx hb d_Mo_quotient_175 (by decide) ?_
  refine lv_goto (tgt := 180) hx hb d_Mo_quotient_176 (by decide) ?_
  exact w_Mo_quotient_180 o C0 q (1 : Int32) h H locs ls hw (lv_sub hl [] rfl)
set_option maxHeartbeats 4000000 in
set_option maxRecDepth 100000 in
theorem w_Mo_quotient_132 {p : Program} {l : Launch} {e : Env} {s : State} {m : MethodId} {args : Array Value} {below : List Frame} {meth : Method} {c : Code} {D : va_G} {A : Nat → Prop} {ad : Nat → Nat} {ca : Nat → ClassId} (o : (Int32 × z_Sg)) (C0 : z_cx z_RMo b_Mo_quotient 13 (some .boolean) D (z_Mt ca) A p s m args meth c) (q : z_Sg) (ih13 : Int64 × Int32 × Int64 × Int64 × Int64 × Int32 × z_Sg → Option (Int32 × z_Sg)) (hi13 : ∀ a : Int64 × Int32 × Int64 × Int64 × Int64 × Int32 × z_Sg, ih13 a = some o → ∀ (H : Heap) (locs : List Loc) (ls : Array Slot), z_wd D (z_M ad ca a.2.2.2.2.2.2) A s H locs → lv_has ls 13 [(0, .ref (ad 0)), (1, .long a.1), (3, .int a.2.1), (4, .long a.2.2.1), (6, .long a.2.2.2.1), (8, .long a.2.2.2.2.1), (10, .int a.2.2.2.2.2.1)] → W p l e (z_rm 0 0) s m args below meth c H locs 0 0 (z_qi below D (z_Mt ca) (z_M ad ca o.2) A s args o.1) (F0 m 13 ls [])) (x1 : Int64) (x3 : Int32) (x4 : Int64) (x6 : Int64) (x10 : Int32) (t0 : Int64) (t1 : Int64) (h : k_Mo_quotient_132 ih13 x1 x3 x4 x6 x10 t0 t1 q = some o) : ∀ (H : Heap) (locs : List Loc) (ls : Array Slot), z_wd D (z_M ad ca q) A s H locs → lv_has ls 13 [(0, .ref (ad 0)), (1, .long x1), (3, .int x3), (4, .long x4), (6, .long x6), (10, .int x10)] → W p l e (z_rm 0 0) s m args below meth c H locs 0 0 (z_qi below D (z_Mt ca) (z_M ad ca o.2) A s args o.1) (F0 m 132 ls [.long t1, .long t0]) := by
  obtain ⟨hx, hb, hr, hlk, hml, hown, hts, hK, hA⟩ := id C0
  intro H locs ls hw hl
  refine lv_lor hx hb d_Mo_quotient_132 ?_
  obtain ⟨n15, en15, h⟩ := ok_n h
  refine z_tl en15 ?_
  refine lv_lstore (lv' := [(8, .long n15), (0, .ref (ad 0)), (1, .long x1), (3, .int x3), (4, .long x4), (6, .long x6), (10, .int x10)]) hx hb d_Mo_quotient_133 hl (by decide) rfl (fun ls hl => ?_)
  obtain ⟨n16, en16, h⟩ := ok_n h
  refine lv_iinc (v := n16) (lv' := [(10, .int n16), (8, .long n15), (0, .ref (ad 0)), (1, .long x1), (3, .int x3), (4, .long x4), (6, .long x6)]) hx hb d_Mo_quotient_135 hl (k := 6) rfl (by rw [en16]; rfl) (by decide) rfl (fun ls hl => ?_)
  refine lv_goto (tgt := 13) hx hb d_Mo_quotient_138 (by decide) ?_
  exact hi13 (x1, x3, x4, x6, n15, n16, q) h H locs ls hw (lv_sub hl [2, 3, 4, 5, 6, 1, 0] rfl)
set_option maxHeartbeats 4000000 in
set_option maxRecDepth 100000 in
theorem w_Mo_quotient_106 {p : Program} {l : Launch} {e : Env} {s : State} {m : MethodId} {args : Array Value} {below : List Frame} {meth : Method} {c : Code} {D : va_G} {A : Nat → Prop} {ad : Nat → Nat} {ca : Nat → ClassId} (o : (Int32 × z_Sg)) (C0 : z_cx z_RMo b_Mo_quotient 13 (some .boolean) D (z_Mt ca) A p s m args meth c) (q : z_Sg) (ih13 : Int64 × Int32 × Int64 × Int64 × Int64 × Int32 × z_Sg → Option (Int32 × z_Sg)) (hi13 : ∀ a : Int64 × Int32 × Int64 × Int64 × Int64 × Int32 × z_Sg, ih13 a = some o → ∀ (H : Heap) (locs : List Loc) (ls : Array Slot), z_wd D (z_M ad ca a.2.2.2.2.2.2) A s H locs → lv_has ls 13 [(0, .ref (ad 0)), (1, .long a.1), (3, .int a.2.1), (4, .long a.2.2.1), (6, .long a.2.2.2.1), (8, .long a.2.2.2.2.1), (10, .int a.2.2.2.2.2.1)] → W p l e (z_rm 0 0) s m args below meth c H locs 0 0 (z_qi below D (z_Mt ca) (z_M ad ca o.2) A s args o.1) (F0 m 13 ls [])) (x1 : Int64) (x3 : Int32) (x4 : Int64) (x6 : Int64) (x8 : Int64) (x10 : Int32) (x12 : Int32) (h : k_Mo_quotient_106 ih13 x1 x3 x4 x6 x8 x10 x12 q = some o) : ∀ (H : Heap) (locs : List Loc) (ls : Array Slot), z_wd D (z_M ad ca q) A s H locs → lv_has ls 13 [(0, .ref (ad 0)), (1, .long x1), (3, .int x3), (4, .long x4), (6, .long x6), (8, .long x8), (10, .int x10), (12, .int x12)] → W p l e (z_rm 0 0) s m args below meth c H locs 0 0 (z_qi below D (z_Mt ca) (z_M ad ca o.2) A s args o.1) (F0 m 106 ls []) := by
  obtain ⟨hx, hb, hr, hlk, hml, hown, hts, hK, hA⟩ := id C0
  intro H locs ls hw hl
  refine lv_lload hx hb d_Mo_quotient_106 (lv_at hl 4 rfl) ?_
  refine lv_iconst (v := (1 : Int32)) hx hb d_Mo_quotient_108 (by decide) ?_
  refine lv_lshl (v := (z_lshl x6 (1 : Int32))) hx hb d_Mo_quotient_109 rfl ?_
  refine lv_lload hx hb d_Mo_quotient_110 (lv_at hl 5 rfl) ?_
  refine lv_bipush (v := (63 : Int32)) hx hb d_Mo_quotient_112 (by decide) ?_
  refine lv_lushr (v := (z_lushr x8 (63 : Int32))) hx hb d_Mo_quotient_114 rfl ?_
  refine lv_lor hx hb d_Mo_quotient_115 ?_
  obtain ⟨n13, en13, h⟩ := ok_n h
  refine z_tl en13 ?_
  refine lv_lstore (lv' := [(6, .long n13), (0, .ref (ad 0)), (1, .long x1), (3, .int x3), (4, .long x4), (8, .long x8), (10, .int x10), (12, .int x12)]) hx hb d_Mo_quotient_116 hl (by decide) rfl (fun ls hl => ?_)
  refine lv_lload hx hb d_Mo_quotient_118 (lv_at hl 5 rfl) ?_
  refine lv_iconst (v := (1 : Int32)) hx hb d_Mo_quotient_120 (by decide) ?_
  refine lv_lshl (v := (z_lshl x8 (1 : Int32))) hx hb d_Mo_quotient_121 rfl ?_
  refine lv_iload hx hb d_Mo_quotient_122 (lv_at hl 7 rfl) ?_
  refine lv_if_eq (tgt := 131) hx hb d_Mo_quotient_124 (by decide) (fun c14 => ?_) (fun c14 => ?_)
  · have h := ok_t h c14
    refine lv_lconst (v := (0 : Int64)) hx hb d_Mo_quotient_131 (by decide) ?_
    exact w_Mo_quotient_132 o C0 q ih13 hi13 x1 x3 x4 n13 x10 (z_lshl x8 (1 : Int32)) (0 : Int64) h H locs ls hw (lv_sub hl [1, 2, 3, 4, 0, 6] rfl)
  · have h := ok_f h c14
    refine lv_lconst (v := (1 : Int64)) hx hb d_Mo_quotient_127 (by decide) ?_
    refine lv_goto (tgt := 132) hx hb d_Mo_quotient_128 (by decide) ?_
    exact w_Mo_quotient_132 o C0 q ih13 hi13 x1 x3 x4 n13 x10 (z_lshl x8 (1 : Int32)) (1 : Int64) h H locs ls hw (lv_sub hl [1, 2, 3, 4, 0, 6] rfl)
set_option maxHeartbeats 4000000 in
set_option maxRecDepth 100000 in
theorem w_Mo_quotient_93 {p : Program} {l : Launch} {e : Env} {s : State} {m : MethodId} {args : Array Value} {below : List Frame} {meth : Method} {c : Code} {D : va_G} {A : Nat → Prop} {ad : Nat → Nat} {ca : Nat → ClassId} (o : (Int32 × z_Sg)) (C0 : z_cx z_RMo b_Mo_quotient 13 (some .boolean) D (z_Mt ca) A p s m args meth c) (q : z_Sg) (ih13 : Int64 × Int32 × Int64 × Int64 × Int64 × Int32 × z_Sg → Option (Int32 × z_Sg)) (hi13 : ∀ a : Int64 × Int32 × Int64 × Int64 × Int64 × Int32 × z_Sg, ih13 a = some o → ∀ (H : Heap) (locs : List Loc) (ls : Array Slot), z_wd D (z_M ad ca a.2.2.2.2.2.2) A s H locs → lv_has ls 13 [(0, .ref (ad 0)), (1, .long a.1), (3, .int a.2.1), (4, .long a.2.2.1), (6, .long a.2.2.2.1), (8, .long a.2.2.2.2.1), (10, .int a.2.2.2.2.2.1)] → W p l e (z_rm 0 0) s m args below meth c H locs 0 0 (z_qi below D (z_Mt ca) (z_M ad ca o.2) A s args o.1) (F0 m 13 ls [])) (x1 : Int64) (x3 : Int32) (x4 : Int64) (x6 : Int64) (x8 : Int64) (x10 : Int32) (t0 : Int32) (h : k_Mo_quotient_93 ih13 x1 x3 x4 x6 x8 x10 t0 q = some o) : ∀ (H : Heap) (locs : List Loc) (ls : Array Slot), z_wd D (z_M ad ca q) A s H locs → lv_has ls 13 [(0, .ref (ad 0)), (1, .long x1), (3, .int x3), (4, .long x4), (6, .long x6), (8, .long x8), (10, .int x10)] → W p l e (z_rm 0 0) s m args below meth c H locs 0 0 (z_qi below D (z_Mt ca) (z_M ad ca o.2) A s args o.1) (F0 m 93 ls [.int t0]) := by
  obtain ⟨hx, hb, hr, hlk, hml, hown, hts, hK, hA⟩ := id C0
  intro H locs ls hw hl
  refine lv_istore (lv' := [(12, .int t0), (0, .ref (ad 0)), (1, .long x1), (3, .int x3), (4, .long x4), (6, .long x6), (8, .long x8), (10, .int x10)]) hx hb d_Mo_quotient_93 hl (by decide) rfl (fun ls hl => ?_)
  refine lv_iload hx hb d_Mo_quotient_95 (lv_at hl 0 rfl) ?_
  refine lv_if_eq (tgt := 106) hx hb d_Mo_quotient_97 (by decide) (fun c12 => ?_) (fun c12 => ?_)
  · have h := ok_t h c12
    exact w_Mo_quotient_106 o C0 q ih13 hi13 x1 x3 x4 x6 x8 x10 t0 h H locs ls hw (lv_sub hl [1, 2, 3, 4, 5, 6, 7, 0] rfl)
  · have h := ok_f h c12
    refine lv_lload hx hb d_Mo_quotient_100 (lv_at hl 4 rfl) ?_
    refine lv_lload_n hx hb d_Mo_quotient_102 rfl (lv_at hl 2 rfl) ?_
    refine lv_lsub hx hb d_Mo_quotient_103 ?_
    obtain ⟨n17, en17, h⟩ := ok_n h
    refine z_tl en17 ?_
    refine lv_lstore (lv' := [(4, .long n17), (12, .int t0), (0, .ref (ad 0)), (1, .long x1), (3, .int x3), (6, .long x6), (8, .long x8), (10, .int x10)]) hx hb d_Mo_quotient_104 hl (by decide) rfl (fun ls hl => ?_)
    exact w_Mo_quotient_106 o C0 q ih13 hi13 x1 x3 n17 x6 x8 x10 t0 h H locs ls hw (lv_sub hl [2, 3, 4, 0, 5, 6, 7, 1] rfl)
set_option maxHeartbeats 4000000 in
set_option maxRecDepth 100000 in
theorem w_Mo_quotient_88 {p : Program} {l : Launch} {e : Env} {s : State} {m : MethodId} {args : Array Value} {below : List Frame} {meth : Method} {c : Code} {D : va_G} {A : Nat → Prop} {ad : Nat → Nat} {ca : Nat → ClassId} (o : (Int32 × z_Sg)) (C0 : z_cx z_RMo b_Mo_quotient 13 (some .boolean) D (z_Mt ca) A p s m args meth c) (q : z_Sg) (ih13 : Int64 × Int32 × Int64 × Int64 × Int64 × Int32 × z_Sg → Option (Int32 × z_Sg)) (hi13 : ∀ a : Int64 × Int32 × Int64 × Int64 × Int64 × Int32 × z_Sg, ih13 a = some o → ∀ (H : Heap) (locs : List Loc) (ls : Array Slot), z_wd D (z_M ad ca a.2.2.2.2.2.2) A s H locs → lv_has ls 13 [(0, .ref (ad 0)), (1, .long a.1), (3, .int a.2.1), (4, .long a.2.2.1), (6, .long a.2.2.2.1), (8, .long a.2.2.2.2.1), (10, .int a.2.2.2.2.2.1)] → W p l e (z_rm 0 0) s m args below meth c H locs 0 0 (z_qi below D (z_Mt ca) (z_M ad ca o.2) A s args o.1) (F0 m 13 ls [])) (x1 : Int64) (x3 : Int32) (x4 : Int64) (x6 : Int64) (x8 : Int64) (x10 : Int32) (h : k_Mo_quotient_88 ih13 x1 x3 x4 x6 x8 x10 q = some o) : ∀ (H : Heap) (locs : List Loc) (ls : Array Slot), z_wd D (z_M ad ca q) A s H locs → lv_has ls 13 [(0, .ref (ad 0)), (1, .long x1), (3, .int x3), (4, .long x4), (6, .long x6), (8, .long x8), (10, .int x10)] → W p l e (z_rm 0 0) s m args below meth c H locs 0 0 (z_qi below D (z_Mt ca) (z_M ad ca o.2) A s args o.1) (F0 m 88 ls []) := by
  obtain ⟨hx, hb, hr, hlk, hml, hown, hts, hK, hA⟩ := id C0
  intro H locs ls hw hl
  refine lv_iconst (v := (1 : Int32)) hx hb d_Mo_quotient_88 (by decide) ?_
  refine lv_goto (tgt := 93) hx hb d_Mo_quotient_89 (by decide) ?_
  exact w_Mo_quotient_93 o C0 q ih13 hi13 x1 x3 x4 x6 x8 x10 (1 : Int32) h H locs ls hw (lv_sub hl [0, 1, 2, 3, 4, 5, 6] rfl)
set_option maxHeartbeats 4000000 in
set_option maxRecDepth 100000 in
theorem w_Mo_quotient_63 {p : Program} {l : Launch} {e : Env} {s : State} {m : MethodId} {args : Array Value} {below : List Frame} {meth : Method} {c : Code} {D : va_G} {A : Nat → Prop} {ad : Nat → Nat} {ca : Nat → ClassId} (o : (Int32 × z_Sg)) (C0 : z_cx z_RMo b_Mo_quotient 13 (some .boolean) D (z_Mt ca) A p s m args meth c) (q : z_Sg) (ih13 : Int64 × Int32 × Int64 × Int64 × Int64 × Int32 × z_Sg → Option (Int32 × z_Sg)) (hi13 : ∀ a : Int64 × Int32 × Int64 × Int64 × Int64 × Int32 × z_Sg, ih13 a = some o → ∀ (H : Heap) (locs : List Loc) (ls : Array Slot), z_wd D (z_M ad ca a.2.2.2.2.2.2) A s H locs → lv_has ls 13 [(0, .ref (ad 0)), (1, .long a.1), (3, .int a.2.1), (4, .long a.2.2.1), (6, .long a.2.2.2.1), (8, .long a.2.2.2.2.1), (10, .int a.2.2.2.2.2.1)] → W p l e (z_rm 0 0) s m args below meth c H locs 0 0 (z_qi below D (z_Mt ca) (z_M ad ca o.2) A s args o.1) (F0 m 13 ls [])) (x1 : Int64) (x3 : Int32) (x6 : Int64) (x8 : Int64) (x10 : Int32) (x11 : Int32) (t0 : Int64) (t1 : Int64) (h : k_Mo_quotient_63 ih13 x1 x3 x6 x8 x10 x11 t0 t1 q = some o) : ∀ (H : Heap) (locs : List Loc) (ls : Array Slot), z_wd D (z_M ad ca q) A s H locs → lv_has ls 13 [(0, .ref (ad 0)), (1, .long x1), (3, .int x3), (6, .long x6), (8, .long x8), (10, .int x10), (11, .int x11)] → W p l e (z_rm 0 0) s m args below meth c H locs 0 0 (z_qi below D (z_Mt ca) (z_M ad ca o.2) A s args o.1) (F0 m 63 ls [.long t1, .long t0]) := by
  obtain ⟨hx, hb, hr, hlk, hml, hown, hts, hK, hA⟩ := id C0
  intro H locs ls hw hl
  refine lv_lconst (v := (1 : Int64)) hx hb d_Mo_quotient_63 (by decide) ?_
  refine lv_land hx hb d_Mo_quotient_64 ?_
  refine lv_lor hx hb d_Mo_quotient_65 ?_
  obtain ⟨n10, en10, h⟩ := ok_n h
  refine z_tl en10 ?_
  refine lv_lstore (lv' := [(4, .long n10), (0, .ref (ad 0)), (1, .long x1), (3, .int x3), (6, .long x6), (8, .long x8), (10, .int x10), (11, .int x11)]) hx hb d_Mo_quotient_66 hl (by decide) rfl (fun ls hl => ?_)
  refine lv_iload hx hb d_Mo_quotient_68 (lv_at hl 7 rfl) ?_
  refine lv_if_ne (tgt := 88) hx hb d_Mo_quotient_70 (by decide) (fun c11 => ?_) (fun c11 => ?_)
  · have h := ok_f h c11
    exact w_Mo_quotient_88 o C0 q ih13 hi13 x1 x3 n10 x6 x8 x10 h H locs ls hw (lv_sub hl [1, 2, 3, 0, 4, 5, 6] rfl)
  · have h := ok_t h c11
    refine lv_lload hx hb d_Mo_quotient_73 (lv_at hl 0 rfl) ?_
    refine lv_ldc2 (own := z_RMo) hx hb hown (hts _ kl_Mo_401) d_Mo_quotient_75 ?_
    refine lv_ladd hx hb d_Mo_quotient_78 ?_
    refine lv_lload_n hx hb d_Mo_quotient_79 rfl (lv_at hl 2 rfl) ?_
    refine lv_ldc2 (own := z_RMo) hx hb hown (hts _ kl_Mo_401) d_Mo_quotient_80 ?_
    refine lv_ladd hx hb d_Mo_quotient_83 ?_
    refine W.lcmp hx hb d_Mo_quotient_84 ?_
    refine lv_if_lt (tgt := 92) hx hb d_Mo_quotient_85 (by decide) (fun c18 => ?_) (fun c18 => ?_)
    · have h := ok_t h ((lg_cmp_lt _ _).mp c18)
      refine lv_iconst (v := (0 : Int32)) hx hb d_Mo_quotient_92 (by decide) ?_
      exact w_Mo_quotient_93 o C0 q ih13 hi13 x1 x3 n10 x6 x8 x10 (0 : Int32) h H locs ls hw (lv_sub hl [1, 2, 3, 0, 4, 5, 6] rfl)
    · have h := ok_f h (fun z => c18 ((lg_cmp_lt _ _).mpr z))
      exact w_Mo_quotient_88 o C0 q ih13 hi13 x1 x3 n10 x6 x8 x10 h H locs ls hw (lv_sub hl [1, 2, 3, 0, 4, 5, 6] rfl)
set_option maxHeartbeats 4000000 in
set_option maxRecDepth 100000 in
theorem w_Mo_quotient_30 {p : Program} {l : Launch} {e : Env} {s : State} {m : MethodId} {args : Array Value} {below : List Frame} {meth : Method} {c : Code} {D : va_G} {A : Nat → Prop} {ad : Nat → Nat} {ca : Nat → ClassId} (o : (Int32 × z_Sg)) (C0 : z_cx z_RMo b_Mo_quotient 13 (some .boolean) D (z_Mt ca) A p s m args meth c) (q : z_Sg) (ih13 : Int64 × Int32 × Int64 × Int64 × Int64 × Int32 × z_Sg → Option (Int32 × z_Sg)) (hi13 : ∀ a : Int64 × Int32 × Int64 × Int64 × Int64 × Int32 × z_Sg, ih13 a = some o → ∀ (H : Heap) (locs : List Loc) (ls : Array Slot), z_wd D (z_M ad ca a.2.2.2.2.2.2) A s H locs → lv_has ls 13 [(0, .ref (ad 0)), (1, .long a.1), (3, .int a.2.1), (4, .long a.2.2.1), (6, .long a.2.2.2.1), (8, .long a.2.2.2.2.1), (10, .int a.2.2.2.2.2.1)] → W p l e (z_rm 0 0) s m args below meth c H locs 0 0 (z_qi below D (z_Mt ca) (z_M ad ca o.2) A s args o.1) (F0 m 13 ls [])) (x1 : Int64) (x3 : Int32) (x4 : Int64) (x6 : Int64) (x8 : Int64) (x10 : Int32) (t0 : Int32) (h : k_Mo_quotient_30 ih13 x1 x3 x4 x6 x8 x10 t0 q = some o) : ∀ (H : Heap) (locs : List Loc) (ls : Array Slot), z_wd D (z_M ad ca q) A s H locs → lv_has ls 13 [(0, .ref (ad 0)), (1, .long x1), (3, .int x3), (4, .long x4), (6, .long x6), (8, .long x8), (10, .int x10)] → W p l e (z_rm 0 0) s m args below meth c H locs 0 0 (z_qi below D (z_Mt ca) (z_M ad ca o.2) A s args o.1) (F0 m 30 ls [.int t0]) := by
  obtain ⟨hx, hb, hr, hlk, hml, hown, hts, hK, hA⟩ := id C0
  intro H locs ls hw hl
  refine lv_istore (lv' := [(11, .int t0), (0, .ref (ad 0)), (1, .long x1), (3, .int x3), (4, .long x4), (6, .long x6), (8, .long x8), (10, .int x10)]) hx hb d_Mo_quotient_30 hl (by decide) rfl (fun ls hl => ?_)
  refine lv_lload hx hb d_Mo_quotient_32 (lv_at hl 4 rfl) ?_
  refine lv_iconst (v := (1 : Int32)) hx hb d_Mo_quotient_34 (by decide) ?_
  refine lv_lshl (v := (z_lshl x4 (1 : Int32))) hx hb d_Mo_quotient_35 rfl ?_
  refine lv_iload hx hb d_Mo_quotient_36 (lv_at hl 7 rfl) ?_
  refine lv_bipush (v := (63 : Int32)) hx hb d_Mo_quotient_38 (by decide) ?_
  refine lv_icmp_le (tgt := 56) hx hb d_Mo_quotient_40 (by decide) (fun c9 => ?_) (fun c9 => ?_)
  · have h := ok_t h c9
    refine lv_aload_n hx hb d_Mo_quotient_56 rfl (lv_at hl 1 rfl) ?_
    refine gfM_0_low C0 hw fl_Mo_380 d_Mo_quotient_57 ?_
    refine lv_iload hx hb d_Mo_quotient_60 (lv_at hl 7 rfl) ?_
    refine lv_lushr (v := (z_lushr (z_gL q 8) x10)) hx hb d_Mo_quotient_62 rfl ?_
    exact w_Mo_quotient_63 o C0 q ih13 hi13 x1 x3 x6 x8 x10 t0 (z_lshl x4 (1 : Int32)) (z_lushr (z_gL q 8) x10) h H locs ls hw (lv_sub hl [1, 2, 3, 5, 6, 7, 0] rfl)
  · have h := ok_f h c9
    refine lv_aload_n hx hb d_Mo_quotient_43 rfl (lv_at hl 1 rfl) ?_
    refine gfM_0_high C0 hw fl_Mo_383 d_Mo_quotient_44 ?_
    refine lv_iload hx hb d_Mo_quotient_47 (lv_at hl 7 rfl) ?_
    refine lv_bipush (v := (64 : Int32)) hx hb d_Mo_quotient_49 (by decide) ?_
    refine lv_isub hx hb d_Mo_quotient_51 ?_
    refine lv_lushr (v := (z_lushr (z_gL q 9) (x10 - (64 : Int32)))) hx hb d_Mo_quotient_52 rfl ?_
    refine lv_goto (tgt := 63) hx hb d_Mo_quotient_53 (by decide) ?_
    exact w_Mo_quotient_63 o C0 q ih13 hi13 x1 x3 x6 x8 x10 t0 (z_lshl x4 (1 : Int32)) (z_lushr (z_gL q 9) (x10 - (64 : Int32))) h H locs ls hw (lv_sub hl [1, 2, 3, 5, 6, 7, 0] rfl)
set_option maxHeartbeats 4000000 in
set_option maxRecDepth 100000 in
theorem wb_Mo_quotient_13 {p : Program} {l : Launch} {e : Env} {s : State} {m : MethodId} {args : Array Value} {below : List Frame} {meth : Method} {c : Code} {D : va_G} {A : Nat → Prop} {ad : Nat → Nat} {ca : Nat → ClassId} (o : (Int32 × z_Sg)) (C0 : z_cx z_RMo b_Mo_quotient 13 (some .boolean) D (z_Mt ca) A p s m args meth c) (q : z_Sg) (ih13 : Int64 × Int32 × Int64 × Int64 × Int64 × Int32 × z_Sg → Option (Int32 × z_Sg)) (hi13 : ∀ a : Int64 × Int32 × Int64 × Int64 × Int64 × Int32 × z_Sg, ih13 a = some o → ∀ (H : Heap) (locs : List Loc) (ls : Array Slot), z_wd D (z_M ad ca a.2.2.2.2.2.2) A s H locs → lv_has ls 13 [(0, .ref (ad 0)), (1, .long a.1), (3, .int a.2.1), (4, .long a.2.2.1), (6, .long a.2.2.2.1), (8, .long a.2.2.2.2.1), (10, .int a.2.2.2.2.2.1)] → W p l e (z_rm 0 0) s m args below meth c H locs 0 0 (z_qi below D (z_Mt ca) (z_M ad ca o.2) A s args o.1) (F0 m 13 ls [])) (x1 : Int64) (x3 : Int32) (x4 : Int64) (x6 : Int64) (x8 : Int64) (x10 : Int32) (h : kb_Mo_quotient_13 ih13 x1 x3 x4 x6 x8 x10 q = some o) : ∀ (H : Heap) (locs : List Loc) (ls : Array Slot), z_wd D (z_M ad ca q) A s H locs → lv_has ls 13 [(0, .ref (ad 0)), (1, .long x1), (3, .int x3), (4, .long x4), (6, .long x6), (8, .long x8), (10, .int x10)] → W p l e (z_rm 0 0) s m args below meth c H locs 0 0 (z_qi below D (z_Mt ca) (z_M ad ca o.2) A s args o.1) (F0 m 13 ls []) := by
  obtain ⟨hx, hb, hr, hlk, hml, hown, hts, hK, hA⟩ := id C0
  intro H locs ls hw hl
  refine lv_iload hx hb d_Mo_quotient_13 (lv_at hl 6 rfl) ?_
  refine lv_if_lt (tgt := 141) hx hb d_Mo_quotient_15 (by decide) (fun c1 => ?_) (fun c1 => ?_)
  · have h := ok_t h c1
    refine lv_aload_n hx hb d_Mo_quotient_141 rfl (lv_at hl 0 rfl) ?_
    refine lv_lload hx hb d_Mo_quotient_142 (lv_at hl 5 rfl) ?_
    refine pfM_0_low C0 hw fl_Mo_380 d_Mo_quotient_144 (fun H locs hw => ?_)
    obtain ⟨q2, eq2, h⟩ := ok_n h
    rw [← eq2] at hw
    refine lv_aload_n hx hb d_Mo_quotient_147 rfl (lv_at hl 0 rfl) ?_
    refine lv_lload hx hb d_Mo_quotient_148 (lv_at hl 3 rfl) ?_
    refine pfM_0_high C0 hw fl_Mo_383 d_Mo_quotient_150 (fun H locs hw => ?_)
    obtain ⟨q3, eq3, h⟩ := ok_n h
    rw [← eq3] at hw
    refine lv_lload hx hb d_Mo_quotient_153 (lv_at hl 4 rfl) ?_
    refine lv_lconst (v := (0 : Int64)) hx hb d_Mo_quotient_155 (by decide) ?_
    refine W.lcmp hx hb d_Mo_quotient_156 ?_
    refine lv_if_ne (tgt := 179) hx hb d_Mo_quotient_157 (by decide) (fun c4 => ?_) (fun c4 => ?_)
    · have h := ok_f h (fun z => c4 ((lg_cmp_eq _ _).mpr z))
      exact w_Mo_quotient_179 o C0 q3 h H locs ls hw (lv_sub hl [] rfl)
    · have h := ok_t h ((lg_cmp_eq _ _).mp c4)
      refine lv_iload_n hx hb d_Mo_quotient_160 rfl (lv_at hl 2 rfl) ?_
      refine lv_bipush (v := (64 : Int32)) hx hb d_Mo_quotient_161 (by decide) ?_
      refine lv_icmp_eq (tgt := 175) hx hb d_Mo_quotient_163 (by decide) (fun c6 => ?_) (fun c6 => ?_)
      · have h := ok_t h c6
        exact w_Mo_quotient_175 o C0 q3 h H locs ls hw (lv_sub hl [] rfl)
      · have h := ok_f h c6
        refine lv_lload hx hb d_Mo_quotient_166 (lv_at hl 5 rfl) ?_
        refine lv_iload_n hx hb d_Mo_quotient_168 rfl (lv_at hl 2 rfl) ?_
        refine lv_lushr (v := (z_lushr x8 x3)) hx hb d_Mo_quotient_169 rfl ?_
        refine lv_lconst (v := (0 : Int64)) hx hb d_Mo_quotient_170 (by decide) ?_
        refine W.lcmp hx hb d_Mo_quotient_171 ?_
        refine lv_if_ne (tgt := 179) hx hb d_Mo_quotient_172 (by decide) (fun c7 => ?_) (fun c7 => ?_)
        · have h := ok_f h (fun z => c7 ((lg_cmp_eq _ _).mpr z))
          exact w_Mo_quotient_179 o C0 q3 h H locs ls hw (lv_sub hl [] rfl)
        · have h := ok_t h ((lg_cmp_eq _ _).mp c7)
          exact w_Mo_quotient_175 o C0 q3 h H locs ls hw (lv_sub hl [] rfl)
  · have h := ok_f h c1
    refine lv_lload hx hb d_Mo_quotient_18 (lv_at hl 3 rfl) ?_
    refine lv_lconst (v := (0 : Int64)) hx hb d_Mo_quotient_20 (by decide) ?_
    refine W.lcmp hx hb d_Mo_quotient_21 ?_
    refine lv_if_ge (tgt := 29) hx hb d_Mo_quotient_22 (by decide) (fun c8 => ?_) (fun c8 => ?_)
    · have h := ok_t h ((lg_cmp_ge _ _).mp c8)
      refine lv_iconst (v := (0 : Int32)) hx hb d_Mo_quotient_29 (by decide) ?_
      exact w_Mo_quotient_30 o C0 q ih13 hi13 x1 x3 x4 x6 x8 x10 (0 : Int32) h H locs ls hw (lv_sub hl [0, 1, 2, 3, 4, 5, 6] rfl)
    · have h := ok_f h (fun z => c8 ((lg_cmp_ge _ _).mpr z))
      refine lv_iconst (v := (1 : Int32)) hx hb d_Mo_quotient_25 (by decide) ?_
      refine lv_goto (tgt := 30) hx hb d_Mo_quotient_26 (by decide) ?_
      exact w_Mo_quotient_30 o C0 q ih13 hi13 x1 x3 x4 x6 x8 x10 (1 : Int32) h H locs ls hw (lv_sub hl [0, 1, 2, 3, 4, 5, 6] rfl)
theorem w_Mo_quotient_13 {p : Program} {l : Launch} {e : Env} {s : State} {m : MethodId} {args : Array Value} {below : List Frame} {meth : Method} {c : Code} {D : va_G} {A : Nat → Prop} {ad : Nat → Nat} {ca : Nat → ClassId} (o : (Int32 × z_Sg)) (C0 : z_cx z_RMo b_Mo_quotient 13 (some .boolean) D (z_Mt ca) A p s m args meth c) (q : z_Sg) (x1 : Int64) (x3 : Int32) (x4 : Int64) (x6 : Int64) (x8 : Int64) (x10 : Int32) (h : k_Mo_quotient_13 x1 x3 x4 x6 x8 x10 q = some o) : ∀ (H : Heap) (locs : List Loc) (ls : Array Slot), z_wd D (z_M ad ca q) A s H locs → lv_has ls 13 [(0, .ref (ad 0)), (1, .long x1), (3, .int x3), (4, .long x4), (6, .long x6), (8, .long x8), (10, .int x10)] → W p l e (z_rm 0 0) s m args below meth c H locs 0 0 (z_qi below D (z_Mt ca) (z_M ad ca o.2) A s args o.1) (F0 m 13 ls []) := by
  have key : ∀ (n : Nat) (a : Int64 × Int32 × Int64 × Int64 × Int64 × Int32 × z_Sg), z_lo (fun ih13 a => kb_Mo_quotient_13 ih13 a.1 a.2.1 a.2.2.1 a.2.2.2.1 a.2.2.2.2.1 a.2.2.2.2.2.1 a.2.2.2.2.2.2) n a = some o → ∀ (H : Heap) (locs : List Loc) (ls : Array Slot), z_wd D (z_M ad ca a.2.2.2.2.2.2) A s H locs → lv_has ls 13 [(0, .ref (ad 0)), (1, .long a.1), (3, .int a.2.1), (4, .long a.2.2.1), (6, .long a.2.2.2.1), (8, .long a.2.2.2.2.1), (10, .int a.2.2.2.2.2.1)] → W p l e (z_rm 0 0) s m args below meth c H locs 0 0 (z_qi below D (z_Mt ca) (z_M ad ca o.2) A s args o.1) (F0 m 13 ls []) := by
    intro n
    induction n with
    | zero => intro a h; cases h
    | succ n ih => exact fun a h => wb_Mo_quotient_13 o C0 a.2.2.2.2.2.2 (z_lo (fun ih13 a => kb_Mo_quotient_13 ih13 a.1 a.2.1 a.2.2.1 a.2.2.2.1 a.2.2.2.2.1 a.2.2.2.2.2.1 a.2.2.2.2.2.2) n) ih a.1 a.2.1 a.2.2.1 a.2.2.2.1 a.2.2.2.2.1 a.2.2.2.2.2.1 h
  exact key 2000 (x1, x3, x4, x6, x8, x10, q) h
set_option maxHeartbeats 4000000 in
set_option maxRecDepth 100000 in
theorem c_Mo_quotient {l : Launch} {D : va_G} {ad : Nat → Nat} {ca : Nat → ClassId} (x1 : Int64) (x3 : Int32) (q : z_Sg) (o : (Int32 × z_Sg)) (h : f_Mo_quotient x1 x3 q = some o) : z_ci l y_Mo_quotient b_Mo_quotient 13 (some .boolean) 0 0 D (z_Mt ca) (z_M ad ca q) (z_M ad ca o.2) [.ref (ad 0), .long x1, .int x3] o.1 := by
  refine z_ci_of (own := z_RMo) (by decide) rfl ?_
  intro p e s m below meth c A C0 hw
  obtain ⟨hx, hb, hr, hlk, hml, hown, hts, hK, hA⟩ := id C0
  generalize hH : s.heap = H at hw ⊢
  generalize hlo : ([] : List Loc) = locs at hw ⊢
  refine z_entry (lv := [(0, .ref (ad 0)), (1, .long x1), (3, .int x3)]) (Nat.le_of_ble_eq_true rfl) rfl (fun ls hl => ?_)
  unfold f_Mo_quotient at h
  refine lv_lconst (v := (0 : Int64)) hx hb d_Mo_quotient_0 (by decide) ?_
  refine lv_lstore (lv' := [(4, .long (0 : Int64)), (0, .ref (ad 0)), (1, .long x1), (3, .int x3)]) hx hb d_Mo_quotient_1 hl (by decide) rfl (fun ls hl => ?_)
  refine lv_lconst (v := (0 : Int64)) hx hb d_Mo_quotient_3 (by decide) ?_
  refine lv_lstore (lv' := [(6, .long (0 : Int64)), (4, .long (0 : Int64)), (0, .ref (ad 0)), (1, .long x1), (3, .int x3)]) hx hb d_Mo_quotient_4 hl (by decide) rfl (fun ls hl => ?_)
  refine lv_lconst (v := (0 : Int64)) hx hb d_Mo_quotient_6 (by decide) ?_
  refine lv_lstore (lv' := [(8, .long (0 : Int64)), (6, .long (0 : Int64)), (4, .long (0 : Int64)), (0, .ref (ad 0)), (1, .long x1), (3, .int x3)]) hx hb d_Mo_quotient_7 hl (by decide) rfl (fun ls hl => ?_)
  refine lv_bipush (v := (127 : Int32)) hx hb d_Mo_quotient_9 (by decide) ?_
  refine lv_istore (lv' := [(10, .int (127 : Int32)), (8, .long (0 : Int64)), (6, .long (0 : Int64)), (4, .long (0 : Int64)), (0, .ref (ad 0)), (1, .long x1), (3, .int x3)]) hx hb d_Mo_quotient_11 hl (by decide) rfl (fun ls hl => ?_)
  exact w_Mo_quotient_13 o C0 q x1 x3 (0 : Int64) (0 : Int64) (0 : Int64) (127 : Int32) h H locs ls hw (lv_sub hl [4, 5, 6, 3, 2, 1, 0] rfl)
def k_Mo_turnSign_32 (t1 : Int64) (t2 : Int64) (q : z_Sg) : Option z_Sg :=
  z_nm (z_sL q 9 (t1 + t2)) (fun q3 => some q3)
def f_Mo_turnSign (q : z_Sg) : Option z_Sg :=
  z_nm (z_sL q 8 (-(z_gL q 8))) (fun q1 => if (z_gL q1 8) = (0 : Int64) then (k_Mo_turnSign_32 ((z_gL q1 9) ^^^ (-1 : Int64)) (1 : Int64) q1) else (k_Mo_turnSign_32 ((z_gL q1 9) ^^^ (-1 : Int64)) (0 : Int64) q1))
set_option maxHeartbeats 4000000 in
set_option maxRecDepth 100000 in
theorem w_Mo_turnSign_32 {p : Program} {l : Launch} {e : Env} {s : State} {m : MethodId} {args : Array Value} {below : List Frame} {meth : Method} {c : Code} {D : va_G} {A : Nat → Prop} {ad : Nat → Nat} {ca : Nat → ClassId} (o : z_Sg) (C0 : z_cx z_RMo b_Mo_turnSign 1 none D (z_Mt ca) A p s m args meth c) (q : z_Sg) (t1 : Int64) (t2 : Int64) (h : k_Mo_turnSign_32 t1 t2 q = some o) : ∀ (H : Heap) (locs : List Loc) (ls : Array Slot), z_wd D (z_M ad ca q) A s H locs → lv_has ls 1 [] → W p l e (z_rm 0 0) s m args below meth c H locs 0 0 (z_qv below D (z_Mt ca) (z_M ad ca o) A s args) (F0 m 32 ls [.long t2, .long t1, .ref (ad 0)]) := by
  obtain ⟨hx, hb, hr, hlk, hml, hown, hts, hK, hA⟩ := id C0
  intro H locs ls hw hl
  refine lv_ladd hx hb d_Mo_turnSign_32 ?_
  refine pfM_0_high C0 hw fl_Mo_383 d_Mo_turnSign_33 (fun H locs hw => ?_)
  obtain ⟨q3, eq3, h⟩ := ok_n h
  rw [← eq3] at hw
  have ho := Option.some.inj h
  subst ho
  exact z_rtv C0 hw d_Mo_turnSign_36
set_option maxHeartbeats 4000000 in
set_option maxRecDepth 100000 in
theorem c_Mo_turnSign {l : Launch} {D : va_G} {ad : Nat → Nat} {ca : Nat → ClassId} (q : z_Sg) (o : z_Sg) (h : f_Mo_turnSign q = some o) : z_cv l y_Mo_turnSign b_Mo_turnSign 1 none 0 0 D (z_Mt ca) (z_M ad ca q) (z_M ad ca o) [.ref (ad 0)] := by
  refine z_cv_of (own := z_RMo) (by decide) rfl ?_
  intro p e s m below meth c A C0 hw
  obtain ⟨hx, hb, hr, hlk, hml, hown, hts, hK, hA⟩ := id C0
  generalize hH : s.heap = H at hw ⊢
  generalize hlo : ([] : List Loc) = locs at hw ⊢
  refine z_entry (lv := [(0, .ref (ad 0))]) (Nat.le_of_ble_eq_true rfl) rfl (fun ls hl => ?_)
  unfold f_Mo_turnSign at h
  refine lv_aload_n hx hb d_Mo_turnSign_0 rfl (lv_at hl 0 rfl) ?_
  refine lv_aload_n hx hb d_Mo_turnSign_1 rfl (lv_at hl 0 rfl) ?_
  refine gfM_0_low C0 hw fl_Mo_380 d_Mo_turnSign_2 ?_
  refine lv_lneg hx hb d_Mo_turnSign_5 ?_
  refine pfM_0_low C0 hw fl_Mo_380 d_Mo_turnSign_6 (fun H locs hw => ?_)
  obtain ⟨q1, eq1, h⟩ := ok_n h
  rw [← eq1] at hw
  refine lv_aload_n hx hb d_Mo_turnSign_9 rfl (lv_at hl 0 rfl) ?_
  refine lv_aload_n hx hb d_Mo_turnSign_10 rfl (lv_at hl 0 rfl) ?_
  refine gfM_0_high C0 hw fl_Mo_383 d_Mo_turnSign_11 ?_
  refine lv_ldc2 (own := z_RMo) hx hb hown (hts _ kl_Mo_71) d_Mo_turnSign_14 ?_
  refine lv_lxor hx hb d_Mo_turnSign_17 ?_
  refine lv_aload_n hx hb d_Mo_turnSign_18 rfl (lv_at hl 0 rfl) ?_
  refine gfM_0_low C0 hw fl_Mo_380 d_Mo_turnSign_19 ?_
  refine lv_lconst (v := (0 : Int64)) hx hb d_Mo_turnSign_22 (by decide) ?_
  refine W.lcmp hx hb d_Mo_turnSign_23 ?_
  refine lv_if_ne (tgt := 31) hx hb d_Mo_turnSign_24 (by decide) (fun c2 => ?_) (fun c2 => ?_)
  · have h := ok_f h (fun z => c2 ((lg_cmp_eq _ _).mpr z))
    refine lv_lconst (v := (0 : Int64)) hx hb d_Mo_turnSign_31 (by decide) ?_
    exact w_Mo_turnSign_32 o C0 q1 ((z_gL q1 9) ^^^ (-1 : Int64)) (0 : Int64) h H locs ls hw (lv_sub hl [] rfl)
  · have h := ok_t h ((lg_cmp_eq _ _).mp c2)
    refine lv_lconst (v := (1 : Int64)) hx hb d_Mo_turnSign_27 (by decide) ?_
    refine lv_goto (tgt := 32) hx hb d_Mo_turnSign_28 (by decide) ?_
    exact w_Mo_turnSign_32 o C0 q1 ((z_gL q1 9) ^^^ (-1 : Int64)) (1 : Int64) h H locs ls hw (lv_sub hl [] rfl)
