def k_law_331 (xs : Nat → Int32) (L : Nat) (ih18 : Int32 × (z_Sg × z_Sg) → Option Int32) (x3 : Int32) (q : (z_Sg × z_Sg)) : Option Int32 :=
  z_nm (x3 + (4 : Int32)) (fun n13 => ih18 (n13, q))
def k_law_245 (xs : Nat → Int32) (L : Nat) (ih18 : Int32 × (z_Sg × z_Sg) → Option Int32) (x3 : Int32) (t1 : Int32) (q : (z_Sg × z_Sg)) : Option Int32 :=
  (f_Mo_level t1 q.2).bind (fun r42 => k_law_331 xs L ih18 x3 (q.1, r42))
def k_law_228 (xs : Nat → Int32) (L : Nat) (ih18 : Int32 × (z_Sg × z_Sg) → Option Int32) (x3 : Int32) (t1 : Int32) (q : (z_Sg × z_Sg)) : Option Int32 :=
  (f_Co_level t1 q.1).bind (fun r39 => if z_bad (x3 + (1 : Int32)) L then none else (if (xs (x3 + (1 : Int32)).toNatClampNeg) = 0 then (k_law_245 xs L ih18 x3 (0 : Int32) (r39, q.2)) else (k_law_245 xs L ih18 x3 (1 : Int32) (r39, q.2))))
def kb_law_18 (xs : Nat → Int32) (L : Nat) (ih18 : Int32 × (z_Sg × z_Sg) → Option Int32) (x3 : Int32) (q : (z_Sg × z_Sg)) : Option Int32 :=
  if ((Int32.ofNat L) - (4 : Int32)) < x3 then (some (1 : Int32)) else (if z_bad x3 L then none else (if ((xs x3.toNatClampNeg) &&& (7 : Int32)) = (0 : Int32) then (if z_bad (x3 + (1 : Int32)) L then none else (if z_bad (x3 + (2 : Int32)) L then none else (if z_bad (x3 + (3 : Int32)) L then none else ((f_Co_store (xs (x3 + (1 : Int32)).toNatClampNeg) (xs (x3 + (2 : Int32)).toNatClampNeg) (xs (x3 + (3 : Int32)).toNatClampNeg) q.1).bind (fun r7 => if z_bad (x3 + (1 : Int32)) L then none else (if z_bad (x3 + (2 : Int32)) L then none else (if z_bad (x3 + (3 : Int32)) L then none else ((f_Mo_store (xs (x3 + (1 : Int32)).toNatClampNeg) (xs (x3 + (2 : Int32)).toNatClampNeg) (xs (x3 + (3 : Int32)).toNatClampNeg) q.2).bind (fun r11 => if r7.1 = r11.1 then (k_law_331 xs L ih18 x3 (r7.2, r11.2)) else (some (0 : Int32))))))))))) else (if ((xs x3.toNatClampNeg) &&& (7 : Int32)) = (1 : Int32) then (if z_bad (x3 + (1 : Int32)) L then none else ((f_Co_stored (xs (x3 + (1 : Int32)).toNatClampNeg) q.1).bind (fun r16 => if z_bad (x3 + (1 : Int32)) L then none else ((f_Mo_stored (xs (x3 + (1 : Int32)).toNatClampNeg) q.2).bind (fun r18 => if r16 = r18 then (k_law_331 xs L ih18 x3 q) else (some (0 : Int32))))))) else (if ((xs x3.toNatClampNeg) &&& (7 : Int32)) = (2 : Int32) then (if z_bad (x3 + (1 : Int32)) L then none else (if z_bad (x3 + (2 : Int32)) L then none else (if z_bad (x3 + (3 : Int32)) L then none else ((f_Co_set (xs (x3 + (1 : Int32)).toNatClampNeg) (xs (x3 + (2 : Int32)).toNatClampNeg) (xs (x3 + (3 : Int32)).toNatClampNeg) q.1).bind (fun r24 => if z_bad (x3 + (1 : Int32)) L then none else (if z_bad (x3 + (2 : Int32)) L then none else (if z_bad (x3 + (3 : Int32)) L then none else ((f_Mo_set (xs (x3 + (1 : Int32)).toNatClampNeg) (xs (x3 + (2 : Int32)).toNatClampNeg) (xs (x3 + (3 : Int32)).toNatClampNeg) q.2).bind (fun r28 => if r24.1 = r28.1 then (k_law_331 xs L ih18 x3 (r24.2, r28.2)) else (some (0 : Int32))))))))))) else (if ((xs x3.toNatClampNeg) &&& (7 : Int32)) = (3 : Int32) then (if z_bad (x3 + (1 : Int32)) L then none else ((f_Co_get (xs (x3 + (1 : Int32)).toNatClampNeg) q.1).bind (fun r32 => if z_bad (x3 + (1 : Int32)) L then none else ((f_Mo_get (xs (x3 + (1 : Int32)).toNatClampNeg) q.2).bind (fun r34 => if r32 = r34 then (k_law_331 xs L ih18 x3 q) else (some (0 : Int32))))))) else (if ((xs x3.toNatClampNeg) &&& (7 : Int32)) = (4 : Int32) then (if z_bad (x3 + (1 : Int32)) L then none else (if (xs (x3 + (1 : Int32)).toNatClampNeg) = 0 then (k_law_228 xs L ih18 x3 (0 : Int32) q) else (k_law_228 xs L ih18 x3 (1 : Int32) q))) else (if ((xs x3.toNatClampNeg) &&& (7 : Int32)) = (5 : Int32) then ((f_Co_step q.1).bind (fun r44 => (f_Mo_step q.2).bind (fun r45 => if r44.1 = r45.1 then (k_law_331 xs L ih18 x3 (r44.2, r45.2)) else (some (0 : Int32))))) else (if ((xs x3.toNatClampNeg) &&& (7 : Int32)) = (6 : Int32) then (if z_bad (x3 + (1 : Int32)) L then none else ((f_Co_run (xs (x3 + (1 : Int32)).toNatClampNeg) q.1).bind (fun r49 => if z_bad (x3 + (1 : Int32)) L then none else ((f_Mo_run (xs (x3 + (1 : Int32)).toNatClampNeg) q.2).bind (fun r51 => if r49.1 = r51.1 then (k_law_331 xs L ih18 x3 (r49.2, r51.2)) else (some (0 : Int32))))))) else (if ((xs x3.toNatClampNeg) &&& (7 : Int32)) = (7 : Int32) then (if z_bad (x3 + (1 : Int32)) L then none else (if z_bad (x3 + (2 : Int32)) L then none else (if z_bad (x3 + (3 : Int32)) L then none else ((f_Co_look (xs (x3 + (1 : Int32)).toNatClampNeg) (xs (x3 + (2 : Int32)).toNatClampNeg) (xs (x3 + (3 : Int32)).toNatClampNeg) q.1).bind (fun r57 => if z_bad (x3 + (1 : Int32)) L then none else (if z_bad (x3 + (2 : Int32)) L then none else (if z_bad (x3 + (3 : Int32)) L then none else ((f_Mo_look (xs (x3 + (1 : Int32)).toNatClampNeg) (xs (x3 + (2 : Int32)).toNatClampNeg) (xs (x3 + (3 : Int32)).toNatClampNeg) q.2).bind (fun r61 => if r57 = r61.1 then (k_law_331 xs L ih18 x3 (q.1, r61.2)) else (some (0 : Int32))))))))))) else (k_law_331 xs L ih18 x3 q))))))))))
def k_law_18 (xs : Nat → Int32) (L : Nat) (x3 : Int32) (q : (z_Sg × z_Sg)) : Option Int32 := z_lo (fun ih18 a => kb_law_18 xs L ih18 a.1 a.2) 2000 (x3, q)
set_option maxHeartbeats 4000000 in
set_option maxRecDepth 100000 in
theorem w_law_331 {p : Program} {l : Launch} {e : Env} {s : State} {m : MethodId} {below : List Frame} {meth : Method} {c : Code} {D : va_G} {ad : Nat → Nat} {ca : Nat → ClassId} {bd : Nat → Nat} {cb : Nat → ClassId} {b L : Nat} {xs : Nat → Int32} (C0 : z_cx z_RLa code 4 ret D (z_2t ca cb) (fun q : Nat => s.heap.size ≤ q) p s m #[Value.ref b] meth c) (hX : va_X b L xs s s.heap) (hbl : b < s.heap.size) (q : (z_Sg × z_Sg)) (ih18 : Int32 × (z_Sg × z_Sg) → Option Int32) (hi18 : ∀ a : Int32 × (z_Sg × z_Sg), ih18 a = some 1 → ∀ (H : Heap) (locs : List Loc) (ls : Array Slot), z_wd D (z_2 ad ca bd cb a.2) (fun q : Nat => s.heap.size ≤ q) s H locs → lv_has ls 4 [(0, .ref b), (1, .ref (ad 0)), (2, .ref (bd 0)), (3, .int a.1)] → W p l e room_1 s m #[Value.ref b] below meth c H locs 30 37115 (lw_Z below #[Value.ref b] s) (F0 m 18 ls [])) (x3 : Int32) (h : k_law_331 xs L ih18 x3 q = some 1) : ∀ (H : Heap) (locs : List Loc) (ls : Array Slot), z_wd D (z_2 ad ca bd cb q) (fun q : Nat => s.heap.size ≤ q) s H locs → lv_has ls 4 [(0, .ref b), (1, .ref (ad 0)), (2, .ref (bd 0)), (3, .int x3)] → W p l e room_1 s m #[Value.ref b] below meth c H locs 30 37115 (lw_Z below #[Value.ref b] s) (F0 m 331 ls []) := by
  obtain ⟨hx, hb, hr, hlk, hml, hown, hts, hK, hA⟩ := id C0
  have hbA : ¬ (fun q : Nat => s.heap.size ≤ q) b := Nat.not_le.mpr hbl
  intro H locs ls hw hl
  obtain ⟨n13, en13, h⟩ := ok_n h
  refine lv_iinc (v := n13) (lv' := [(3, .int n13), (0, .ref b), (1, .ref (ad 0)), (2, .ref (bd 0))]) hx hb d_law_331 hl (k := 3) rfl (by rw [en13]; rfl) (by decide) rfl (fun ls hl => ?_)
  refine lv_goto (tgt := 18) hx hb d_law_334 (by decide) ?_
  exact hi18 (n13, q) h H locs ls hw (lv_sub hl [1, 2, 3, 0] rfl)
set_option maxHeartbeats 4000000 in
set_option maxRecDepth 100000 in
theorem w_law_245 {p : Program} {l : Launch} {e : Env} {s : State} {m : MethodId} {below : List Frame} {meth : Method} {c : Code} {D : va_G} {ad : Nat → Nat} {ca : Nat → ClassId} {bd : Nat → Nat} {cb : Nat → ClassId} {b L : Nat} {xs : Nat → Int32} (C0 : z_cx z_RLa code 4 ret D (z_2t ca cb) (fun q : Nat => s.heap.size ≤ q) p s m #[Value.ref b] meth c) (hX : va_X b L xs s s.heap) (hbl : b < s.heap.size) (q : (z_Sg × z_Sg)) (ih18 : Int32 × (z_Sg × z_Sg) → Option Int32) (hi18 : ∀ a : Int32 × (z_Sg × z_Sg), ih18 a = some 1 → ∀ (H : Heap) (locs : List Loc) (ls : Array Slot), z_wd D (z_2 ad ca bd cb a.2) (fun q : Nat => s.heap.size ≤ q) s H locs → lv_has ls 4 [(0, .ref b), (1, .ref (ad 0)), (2, .ref (bd 0)), (3, .int a.1)] → W p l e room_1 s m #[Value.ref b] below meth c H locs 30 37115 (lw_Z below #[Value.ref b] s) (F0 m 18 ls [])) (x3 : Int32) (t1 : Int32) (h : k_law_245 xs L ih18 x3 t1 q = some 1) : ∀ (H : Heap) (locs : List Loc) (ls : Array Slot), z_wd D (z_2 ad ca bd cb q) (fun q : Nat => s.heap.size ≤ q) s H locs → lv_has ls 4 [(0, .ref b), (1, .ref (ad 0)), (2, .ref (bd 0)), (3, .int x3)] → W p l e room_1 s m #[Value.ref b] below meth c H locs 30 37115 (lw_Z below #[Value.ref b] s) (F0 m 245 ls [.int t1, .ref (bd 0)]) := by
  obtain ⟨hx, hb, hr, hlk, hml, hown, hts, hK, hA⟩ := id C0
  have hbA : ¬ (fun q : Nat => s.heap.size ≤ q) b := Nat.not_le.mpr hbl
  intro H locs ls hw hl
  obtain ⟨r42, er42, h⟩ := ok_b h
  have hw : z_wd D (z_K ad ca q.1 ++ z_M bd cb q.2) (fun q : Nat => s.heap.size ≤ q) s H locs := hw
  refine z_Rvv (rest := []) C0 (z_2tr hK) hw (c_Mo_level t1 q.2 r42 er42) mw_Mo_level ml_La_35 0 rfl ⟨Nat.le_of_ble_eq_true rfl, Nat.le_of_ble_eq_true rfl⟩ ⟨Nat.le_of_ble_eq_true rfl, Nat.le_of_ble_eq_true rfl⟩ rfl hl.1 rfl (Nat.le_of_ble_eq_true rfl) d_law_245 (fun H locs hw => ?_)
  have hw : z_wd D (z_2 ad ca bd cb (q.1, r42)) (fun q : Nat => s.heap.size ≤ q) s H locs := hw
  refine lv_goto (tgt := 331) hx hb d_law_248 (by decide) ?_
  exact w_law_331 C0 hX hbl (q.1, r42) ih18 hi18 x3 h H locs ls hw (lv_sub hl [0, 1, 2, 3] rfl)
set_option maxHeartbeats 4000000 in
set_option maxRecDepth 100000 in
theorem w_law_228 {p : Program} {l : Launch} {e : Env} {s : State} {m : MethodId} {below : List Frame} {meth : Method} {c : Code} {D : va_G} {ad : Nat → Nat} {ca : Nat → ClassId} {bd : Nat → Nat} {cb : Nat → ClassId} {b L : Nat} {xs : Nat → Int32} (C0 : z_cx z_RLa code 4 ret D (z_2t ca cb) (fun q : Nat => s.heap.size ≤ q) p s m #[Value.ref b] meth c) (hX : va_X b L xs s s.heap) (hbl : b < s.heap.size) (q : (z_Sg × z_Sg)) (ih18 : Int32 × (z_Sg × z_Sg) → Option Int32) (hi18 : ∀ a : Int32 × (z_Sg × z_Sg), ih18 a = some 1 → ∀ (H : Heap) (locs : List Loc) (ls : Array Slot), z_wd D (z_2 ad ca bd cb a.2) (fun q : Nat => s.heap.size ≤ q) s H locs → lv_has ls 4 [(0, .ref b), (1, .ref (ad 0)), (2, .ref (bd 0)), (3, .int a.1)] → W p l e room_1 s m #[Value.ref b] below meth c H locs 30 37115 (lw_Z below #[Value.ref b] s) (F0 m 18 ls [])) (x3 : Int32) (t1 : Int32) (h : k_law_228 xs L ih18 x3 t1 q = some 1) : ∀ (H : Heap) (locs : List Loc) (ls : Array Slot), z_wd D (z_2 ad ca bd cb q) (fun q : Nat => s.heap.size ≤ q) s H locs → lv_has ls 4 [(0, .ref b), (1, .ref (ad 0)), (2, .ref (bd 0)), (3, .int x3)] → W p l e room_1 s m #[Value.ref b] below meth c H locs 30 37115 (lw_Z below #[Value.ref b] s) (F0 m 228 ls [.int t1, .ref (ad 0)]) := by
  obtain ⟨hx, hb, hr, hlk, hml, hown, hts, hK, hA⟩ := id C0
  have hbA : ¬ (fun q : Nat => s.heap.size ≤ q) b := Nat.not_le.mpr hbl
  intro H locs ls hw hl
  obtain ⟨r39, er39, h⟩ := ok_b h
  have hw : z_wd D (z_K ad ca q.1 ++ z_M bd cb q.2) (fun q : Nat => s.heap.size ≤ q) s H locs := hw
  refine z_Lvv (rest := []) C0 (z_2tl hK) hw (c_Co_level t1 q.1 r39 er39) mw_Co_level ml_La_31 0 rfl ⟨Nat.le_of_ble_eq_true rfl, Nat.le_of_ble_eq_true rfl⟩ ⟨Nat.le_of_ble_eq_true rfl, Nat.le_of_ble_eq_true rfl⟩ rfl hl.1 rfl (Nat.le_of_ble_eq_true rfl) d_law_228 (fun H locs hw => ?_)
  have hw : z_wd D (z_2 ad ca bd cb (r39, q.2)) (fun q : Nat => s.heap.size ≤ q) s H locs := hw
  refine lv_aload_n hx hb d_law_231 rfl (lv_at hl 2 rfl) ?_
  refine lv_aload_n hx hb d_law_232 rfl (lv_at hl 0 rfl) ?_
  refine lv_iload_n hx hb d_law_233 rfl (lv_at hl 3 rfl) ?_
  refine lv_iconst (v := (1 : Int32)) hx hb d_law_234 (by decide) ?_
  refine lv_iadd hx hb d_law_235 ?_
  obtain ⟨b40, h⟩ := ok_g h
  refine va_sld hx hb hX hbl hbA hw.2.2 b40 d_law_236 ?_
  refine lv_if_eq (tgt := 244) hx hb d_law_237 (by decide) (fun c41 => ?_) (fun c41 => ?_)
  · have h := ok_t h c41
    refine lv_iconst (v := (0 : Int32)) hx hb d_law_244 (by decide) ?_
    exact w_law_245 C0 hX hbl (r39, q.2) ih18 hi18 x3 (0 : Int32) h H locs ls hw (lv_sub hl [0, 1, 2, 3] rfl)
  · have h := ok_f h c41
    refine lv_iconst (v := (1 : Int32)) hx hb d_law_240 (by decide) ?_
    refine lv_goto (tgt := 245) hx hb d_law_241 (by decide) ?_
    exact w_law_245 C0 hX hbl (r39, q.2) ih18 hi18 x3 (1 : Int32) h H locs ls hw (lv_sub hl [0, 1, 2, 3] rfl)
set_option maxHeartbeats 4000000 in
set_option maxRecDepth 100000 in
theorem wb_law_18 {p : Program} {l : Launch} {e : Env} {s : State} {m : MethodId} {below : List Frame} {meth : Method} {c : Code} {D : va_G} {ad : Nat → Nat} {ca : Nat → ClassId} {bd : Nat → Nat} {cb : Nat → ClassId} {b L : Nat} {xs : Nat → Int32} (C0 : z_cx z_RLa code 4 ret D (z_2t ca cb) (fun q : Nat => s.heap.size ≤ q) p s m #[Value.ref b] meth c) (hX : va_X b L xs s s.heap) (hbl : b < s.heap.size) (q : (z_Sg × z_Sg)) (ih18 : Int32 × (z_Sg × z_Sg) → Option Int32) (hi18 : ∀ a : Int32 × (z_Sg × z_Sg), ih18 a = some 1 → ∀ (H : Heap) (locs : List Loc) (ls : Array Slot), z_wd D (z_2 ad ca bd cb a.2) (fun q : Nat => s.heap.size ≤ q) s H locs → lv_has ls 4 [(0, .ref b), (1, .ref (ad 0)), (2, .ref (bd 0)), (3, .int a.1)] → W p l e room_1 s m #[Value.ref b] below meth c H locs 30 37115 (lw_Z below #[Value.ref b] s) (F0 m 18 ls [])) (x3 : Int32) (h : kb_law_18 xs L ih18 x3 q = some 1) : ∀ (H : Heap) (locs : List Loc) (ls : Array Slot), z_wd D (z_2 ad ca bd cb q) (fun q : Nat => s.heap.size ≤ q) s H locs → lv_has ls 4 [(0, .ref b), (1, .ref (ad 0)), (2, .ref (bd 0)), (3, .int x3)] → W p l e room_1 s m #[Value.ref b] below meth c H locs 30 37115 (lw_Z below #[Value.ref b] s) (F0 m 18 ls []) := by
  obtain ⟨hx, hb, hr, hlk, hml, hown, hts, hK, hA⟩ := id C0
  have hbA : ¬ (fun q : Nat => s.heap.size ≤ q) b := Nat.not_le.mpr hbl
  intro H locs ls hw hl
  refine lv_iload_n hx hb d_law_18 rfl (lv_at hl 3 rfl) ?_
  refine lv_aload_n hx hb d_law_19 rfl (lv_at hl 0 rfl) ?_
  refine va_slen hx hb hX hbl hbA hw.2.2 d_law_20 ?_
  refine lv_iconst (v := (4 : Int32)) hx hb d_law_21 (by decide) ?_
  refine lv_isub hx hb d_law_22 ?_
  refine lv_icmp_gt (tgt := 337) hx hb d_law_23 (by decide) (fun c1 => ?_) (fun c1 => ?_)
  · have h := ok_t h c1
    refine lv_iconst (v := (1 : Int32)) hx hb d_law_337 (by decide) ?_
    refine va_forget (fun q hq => hw.2.2.2.2 q hq) ?_
    refine W.widen (k := 600000) (n := 7302249) (Nat.le_of_ble_eq_true rfl) (Nat.le_of_ble_eq_true rfl) ?_
    exact lw_ret hx hb hr hlk d_law_338
  · have h := ok_f h c1
    refine lv_aload_n hx hb d_law_26 rfl (lv_at hl 0 rfl) ?_
    refine lv_iload_n hx hb d_law_27 rfl (lv_at hl 3 rfl) ?_
    obtain ⟨b2, h⟩ := ok_g h
    refine va_sld hx hb hX hbl hbA hw.2.2 b2 d_law_28 ?_
    refine lv_bipush (v := (7 : Int32)) hx hb d_law_29 (by decide) ?_
    refine lv_iand hx hb d_law_31 ?_
    by_cases c3 : ((xs x3.toNatClampNeg) &&& (7 : Int32)) = (0 : Int32)
    · have h := ok_t h c3
      refine lv_tableIn (off := 48) (tgt := 80) hx hb d_law_32 (by rw [c3]; decide) (by rw [c3]; decide) (by rw [c3]; rfl) (by decide) ?_
      refine lv_aload_n hx hb d_law_80 rfl (lv_at hl 1 rfl) ?_
      refine lv_aload_n hx hb d_law_81 rfl (lv_at hl 0 rfl) ?_
      refine lv_iload_n hx hb d_law_82 rfl (lv_at hl 3 rfl) ?_
      refine lv_iconst (v := (1 : Int32)) hx hb d_law_83 (by decide) ?_
      refine lv_iadd hx hb d_law_84 ?_
      obtain ⟨b4, h⟩ := ok_g h
      refine va_sld hx hb hX hbl hbA hw.2.2 b4 d_law_85 ?_
      refine lv_aload_n hx hb d_law_86 rfl (lv_at hl 0 rfl) ?_
      refine lv_iload_n hx hb d_law_87 rfl (lv_at hl 3 rfl) ?_
      refine lv_iconst (v := (2 : Int32)) hx hb d_law_88 (by decide) ?_
      refine lv_iadd hx hb d_law_89 ?_
      obtain ⟨b5, h⟩ := ok_g h
      refine va_sld hx hb hX hbl hbA hw.2.2 b5 d_law_90 ?_
      refine lv_aload_n hx hb d_law_91 rfl (lv_at hl 0 rfl) ?_
      refine lv_iload_n hx hb d_law_92 rfl (lv_at hl 3 rfl) ?_
      refine lv_iconst (v := (3 : Int32)) hx hb d_law_93 (by decide) ?_
      refine lv_iadd hx hb d_law_94 ?_
      obtain ⟨b6, h⟩ := ok_g h
      refine va_sld hx hb hX hbl hbA hw.2.2 b6 d_law_95 ?_
      obtain ⟨r7, er7, h⟩ := ok_b h
      have hw : z_wd D (z_K ad ca q.1 ++ z_M bd cb q.2) (fun q : Nat => s.heap.size ≤ q) s H locs := hw
      refine z_Lvi (rest := []) C0 (z_2tl hK) hw (c_Co_store (xs (x3 + (1 : Int32)).toNatClampNeg) (xs (x3 + (2 : Int32)).toNatClampNeg) (xs (x3 + (3 : Int32)).toNatClampNeg) q.1 r7 er7) mw_Co_store ml_La_13 0 rfl ⟨Nat.le_of_ble_eq_true rfl, Nat.le_of_ble_eq_true rfl⟩ ⟨Nat.le_of_ble_eq_true rfl, Nat.le_of_ble_eq_true rfl⟩ rfl hl.1 rfl (Nat.le_of_ble_eq_true rfl) d_law_96 (fun H locs hw => ?_)
      have hw : z_wd D (z_2 ad ca bd cb (r7.2, q.2)) (fun q : Nat => s.heap.size ≤ q) s H locs := hw
      refine lv_aload_n hx hb d_law_99 rfl (lv_at hl 2 rfl) ?_
      refine lv_aload_n hx hb d_law_100 rfl (lv_at hl 0 rfl) ?_
      refine lv_iload_n hx hb d_law_101 rfl (lv_at hl 3 rfl) ?_
      refine lv_iconst (v := (1 : Int32)) hx hb d_law_102 (by decide) ?_
      refine lv_iadd hx hb d_law_103 ?_
      obtain ⟨b8, h⟩ := ok_g h
      refine va_sld hx hb hX hbl hbA hw.2.2 b8 d_law_104 ?_
      refine lv_aload_n hx hb d_law_105 rfl (lv_at hl 0 rfl) ?_
      refine lv_iload_n hx hb d_law_106 rfl (lv_at hl 3 rfl) ?_
      refine lv_iconst (v := (2 : Int32)) hx hb d_law_107 (by decide) ?_
      refine lv_iadd hx hb d_law_108 ?_
      obtain ⟨b9, h⟩ := ok_g h
      refine va_sld hx hb hX hbl hbA hw.2.2 b9 d_law_109 ?_
      refine lv_aload_n hx hb d_law_110 rfl (lv_at hl 0 rfl) ?_
      refine lv_iload_n hx hb d_law_111 rfl (lv_at hl 3 rfl) ?_
      refine lv_iconst (v := (3 : Int32)) hx hb d_law_112 (by decide) ?_
      refine lv_iadd hx hb d_law_113 ?_
      obtain ⟨b10, h⟩ := ok_g h
      refine va_sld hx hb hX hbl hbA hw.2.2 b10 d_law_114 ?_
      obtain ⟨r11, er11, h⟩ := ok_b h
      have hw : z_wd D (z_K ad ca r7.2 ++ z_M bd cb q.2) (fun q : Nat => s.heap.size ≤ q) s H locs := hw
      refine z_Rvi (rest := [.int r7.1]) C0 (z_2tr hK) hw (c_Mo_store (xs (x3 + (1 : Int32)).toNatClampNeg) (xs (x3 + (2 : Int32)).toNatClampNeg) (xs (x3 + (3 : Int32)).toNatClampNeg) q.2 r11 er11) mw_Mo_store ml_La_17 0 rfl ⟨Nat.le_of_ble_eq_true rfl, Nat.le_of_ble_eq_true rfl⟩ ⟨Nat.le_of_ble_eq_true rfl, Nat.le_of_ble_eq_true rfl⟩ rfl hl.1 rfl (Nat.le_of_ble_eq_true rfl) d_law_115 (fun H locs hw => ?_)
      have hw : z_wd D (z_2 ad ca bd cb (r7.2, r11.2)) (fun q : Nat => s.heap.size ≤ q) s H locs := hw
      refine lv_icmp_eq (tgt := 331) hx hb d_law_118 (by decide) (fun c12 => ?_) (fun c12 => ?_)
      · have h := ok_t h c12
        exact w_law_331 C0 hX hbl (r7.2, r11.2) ih18 hi18 x3 h H locs ls hw (lv_sub hl [0, 1, 2, 3] rfl)
      · have h := ok_f h c12
        refine lv_iconst (v := (0 : Int32)) hx hb d_law_121 (by decide) ?_
        exact absurd (Option.some.inj h) (by decide)
    have h := ok_f h c3
    by_cases c14 : ((xs x3.toNatClampNeg) &&& (7 : Int32)) = (1 : Int32)
    · have h := ok_t h c14
      refine lv_tableIn (off := 91) (tgt := 123) hx hb d_law_32 (by rw [c14]; decide) (by rw [c14]; decide) (by rw [c14]; rfl) (by decide) ?_
      refine lv_aload_n hx hb d_law_123 rfl (lv_at hl 1 rfl) ?_
      refine lv_aload_n hx hb d_law_124 rfl (lv_at hl 0 rfl) ?_
      refine lv_iload_n hx hb d_law_125 rfl (lv_at hl 3 rfl) ?_
      refine lv_iconst (v := (1 : Int32)) hx hb d_law_126 (by decide) ?_
      refine lv_iadd hx hb d_law_127 ?_
      obtain ⟨b15, h⟩ := ok_g h
      refine va_sld hx hb hX hbl hbA hw.2.2 b15 d_law_128 ?_
      obtain ⟨r16, er16, h⟩ := ok_b h
      have hw : z_wd D (z_K ad ca q.1 ++ z_M bd cb q.2) (fun q : Nat => s.heap.size ≤ q) s H locs := hw
      refine z_Lvl (rest := []) C0 (z_2tl hK) hw (c_Co_stored (xs (x3 + (1 : Int32)).toNatClampNeg) q.1 r16 er16) mw_Co_stored ml_La_18 0 rfl ⟨Nat.le_of_ble_eq_true rfl, Nat.le_of_ble_eq_true rfl⟩ ⟨Nat.le_of_ble_eq_true rfl, Nat.le_of_ble_eq_true rfl⟩ rfl hl.1 rfl (Nat.le_of_ble_eq_true rfl) d_law_129 (fun H locs hw => ?_)
      have hw : z_wd D (z_2 ad ca bd cb q) (fun q : Nat => s.heap.size ≤ q) s H locs := hw
      refine lv_aload_n hx hb d_law_132 rfl (lv_at hl 2 rfl) ?_
      refine lv_aload_n hx hb d_law_133 rfl (lv_at hl 0 rfl) ?_
      refine lv_iload_n hx hb d_law_134 rfl (lv_at hl 3 rfl) ?_
      refine lv_iconst (v := (1 : Int32)) hx hb d_law_135 (by decide) ?_
      refine lv_iadd hx hb d_law_136 ?_
      obtain ⟨b17, h⟩ := ok_g h
      refine va_sld hx hb hX hbl hbA hw.2.2 b17 d_law_137 ?_
      obtain ⟨r18, er18, h⟩ := ok_b h
      have hw : z_wd D (z_K ad ca q.1 ++ z_M bd cb q.2) (fun q : Nat => s.heap.size ≤ q) s H locs := hw
      refine z_Rvl (rest := [.long r16]) C0 (z_2tr hK) hw (c_Mo_stored (xs (x3 + (1 : Int32)).toNatClampNeg) q.2 r18 er18) mw_Mo_stored ml_La_22 0 rfl ⟨Nat.le_of_ble_eq_true rfl, Nat.le_of_ble_eq_true rfl⟩ ⟨Nat.le_of_ble_eq_true rfl, Nat.le_of_ble_eq_true rfl⟩ rfl hl.1 rfl (Nat.le_of_ble_eq_true rfl) d_law_138 (fun H locs hw => ?_)
      have hw : z_wd D (z_2 ad ca bd cb q) (fun q : Nat => s.heap.size ≤ q) s H locs := hw
      refine W.lcmp hx hb d_law_141 ?_
      refine lv_if_eq (tgt := 331) hx hb d_law_142 (by decide) (fun c19 => ?_) (fun c19 => ?_)
      · have h := ok_t h ((lg_cmp_eq _ _).mp c19)
        exact w_law_331 C0 hX hbl q ih18 hi18 x3 h H locs ls hw (lv_sub hl [0, 1, 2, 3] rfl)
      · have h := ok_f h (fun z => c19 ((lg_cmp_eq _ _).mpr z))
        refine lv_iconst (v := (0 : Int32)) hx hb d_law_145 (by decide) ?_
        exact absurd (Option.some.inj h) (by decide)
    have h := ok_f h c14
    by_cases c20 : ((xs x3.toNatClampNeg) &&& (7 : Int32)) = (2 : Int32)
    · have h := ok_t h c20
      refine lv_tableIn (off := 115) (tgt := 147) hx hb d_law_32 (by rw [c20]; decide) (by rw [c20]; decide) (by rw [c20]; rfl) (by decide) ?_
      refine lv_aload_n hx hb d_law_147 rfl (lv_at hl 1 rfl) ?_
      refine lv_aload_n hx hb d_law_148 rfl (lv_at hl 0 rfl) ?_
      refine lv_iload_n hx hb d_law_149 rfl (lv_at hl 3 rfl) ?_
      refine lv_iconst (v := (1 : Int32)) hx hb d_law_150 (by decide) ?_
      refine lv_iadd hx hb d_law_151 ?_
      obtain ⟨b21, h⟩ := ok_g h
      refine va_sld hx hb hX hbl hbA hw.2.2 b21 d_law_152 ?_
      refine lv_aload_n hx hb d_law_153 rfl (lv_at hl 0 rfl) ?_
      refine lv_iload_n hx hb d_law_154 rfl (lv_at hl 3 rfl) ?_
      refine lv_iconst (v := (2 : Int32)) hx hb d_law_155 (by decide) ?_
      refine lv_iadd hx hb d_law_156 ?_
      obtain ⟨b22, h⟩ := ok_g h
      refine va_sld hx hb hX hbl hbA hw.2.2 b22 d_law_157 ?_
      refine lv_aload_n hx hb d_law_158 rfl (lv_at hl 0 rfl) ?_
      refine lv_iload_n hx hb d_law_159 rfl (lv_at hl 3 rfl) ?_
      refine lv_iconst (v := (3 : Int32)) hx hb d_law_160 (by decide) ?_
      refine lv_iadd hx hb d_law_161 ?_
      obtain ⟨b23, h⟩ := ok_g h
      refine va_sld hx hb hX hbl hbA hw.2.2 b23 d_law_162 ?_
      obtain ⟨r24, er24, h⟩ := ok_b h
      have hw : z_wd D (z_K ad ca q.1 ++ z_M bd cb q.2) (fun q : Nat => s.heap.size ≤ q) s H locs := hw
      refine z_Lvi (rest := []) C0 (z_2tl hK) hw (c_Co_set (xs (x3 + (1 : Int32)).toNatClampNeg) (xs (x3 + (2 : Int32)).toNatClampNeg) (xs (x3 + (3 : Int32)).toNatClampNeg) q.1 r24 er24) mw_Co_set ml_La_23 0 rfl ⟨Nat.le_of_ble_eq_true rfl, Nat.le_of_ble_eq_true rfl⟩ ⟨Nat.le_of_ble_eq_true rfl, Nat.le_of_ble_eq_true rfl⟩ rfl hl.1 rfl (Nat.le_of_ble_eq_true rfl) d_law_163 (fun H locs hw => ?_)
      have hw : z_wd D (z_2 ad ca bd cb (r24.2, q.2)) (fun q : Nat => s.heap.size ≤ q) s H locs := hw
      refine lv_aload_n hx hb d_law_166 rfl (lv_at hl 2 rfl) ?_
      refine lv_aload_n hx hb d_law_167 rfl (lv_at hl 0 rfl) ?_
      refine lv_iload_n hx hb d_law_168 rfl (lv_at hl 3 rfl) ?_
      refine lv_iconst (v := (1 : Int32)) hx hb d_law_169 (by decide) ?_
      refine lv_iadd hx hb d_law_170 ?_
      obtain ⟨b25, h⟩ := ok_g h
      refine va_sld hx hb hX hbl hbA hw.2.2 b25 d_law_171 ?_
      refine lv_aload_n hx hb d_law_172 rfl (lv_at hl 0 rfl) ?_
      refine lv_iload_n hx hb d_law_173 rfl (lv_at hl 3 rfl) ?_
      refine lv_iconst (v := (2 : Int32)) hx hb d_law_174 (by decide) ?_
      refine lv_iadd hx hb d_law_175 ?_
      obtain ⟨b26, h⟩ := ok_g h
      refine va_sld hx hb hX hbl hbA hw.2.2 b26 d_law_176 ?_
      refine lv_aload_n hx hb d_law_177 rfl (lv_at hl 0 rfl) ?_
      refine lv_iload_n hx hb d_law_178 rfl (lv_at hl 3 rfl) ?_
      refine lv_iconst (v := (3 : Int32)) hx hb d_law_179 (by decide) ?_
      refine lv_iadd hx hb d_law_180 ?_
      obtain ⟨b27, h⟩ := ok_g h
      refine va_sld hx hb hX hbl hbA hw.2.2 b27 d_law_181 ?_
      obtain ⟨r28, er28, h⟩ := ok_b h
      have hw : z_wd D (z_K ad ca r24.2 ++ z_M bd cb q.2) (fun q : Nat => s.heap.size ≤ q) s H locs := hw
      refine z_Rvi (rest := [.int r24.1]) C0 (z_2tr hK) hw (c_Mo_set (xs (x3 + (1 : Int32)).toNatClampNeg) (xs (x3 + (2 : Int32)).toNatClampNeg) (xs (x3 + (3 : Int32)).toNatClampNeg) q.2 r28 er28) mw_Mo_set ml_La_26 0 rfl ⟨Nat.le_of_ble_eq_true rfl, Nat.le_of_ble_eq_true rfl⟩ ⟨Nat.le_of_ble_eq_true rfl, Nat.le_of_ble_eq_true rfl⟩ rfl hl.1 rfl (Nat.le_of_ble_eq_true rfl) d_law_182 (fun H locs hw => ?_)
      have hw : z_wd D (z_2 ad ca bd cb (r24.2, r28.2)) (fun q : Nat => s.heap.size ≤ q) s H locs := hw
      refine lv_icmp_eq (tgt := 331) hx hb d_law_185 (by decide) (fun c29 => ?_) (fun c29 => ?_)
      · have h := ok_t h c29
        exact w_law_331 C0 hX hbl (r24.2, r28.2) ih18 hi18 x3 h H locs ls hw (lv_sub hl [0, 1, 2, 3] rfl)
      · have h := ok_f h c29
        refine lv_iconst (v := (0 : Int32)) hx hb d_law_188 (by decide) ?_
        exact absurd (Option.some.inj h) (by decide)
    have h := ok_f h c20
    by_cases c30 : ((xs x3.toNatClampNeg) &&& (7 : Int32)) = (3 : Int32)
    · have h := ok_t h c30
      refine lv_tableIn (off := 158) (tgt := 190) hx hb d_law_32 (by rw [c30]; decide) (by rw [c30]; decide) (by rw [c30]; rfl) (by decide) ?_
      refine lv_aload_n hx hb d_law_190 rfl (lv_at hl 1 rfl) ?_
      refine lv_aload_n hx hb d_law_191 rfl (lv_at hl 0 rfl) ?_
      refine lv_iload_n hx hb d_law_192 rfl (lv_at hl 3 rfl) ?_
      refine lv_iconst (v := (1 : Int32)) hx hb d_law_193 (by decide) ?_
      refine lv_iadd hx hb d_law_194 ?_
      obtain ⟨b31, h⟩ := ok_g h
      refine va_sld hx hb hX hbl hbA hw.2.2 b31 d_law_195 ?_
      obtain ⟨r32, er32, h⟩ := ok_b h
      have hw : z_wd D (z_K ad ca q.1 ++ z_M bd cb q.2) (fun q : Nat => s.heap.size ≤ q) s H locs := hw
      refine z_Lvl (rest := []) C0 (z_2tl hK) hw (c_Co_get (xs (x3 + (1 : Int32)).toNatClampNeg) q.1 r32 er32) mw_Co_get ml_La_27 0 rfl ⟨Nat.le_of_ble_eq_true rfl, Nat.le_of_ble_eq_true rfl⟩ ⟨Nat.le_of_ble_eq_true rfl, Nat.le_of_ble_eq_true rfl⟩ rfl hl.1 rfl (Nat.le_of_ble_eq_true rfl) d_law_196 (fun H locs hw => ?_)
      have hw : z_wd D (z_2 ad ca bd cb q) (fun q : Nat => s.heap.size ≤ q) s H locs := hw
      refine lv_aload_n hx hb d_law_199 rfl (lv_at hl 2 rfl) ?_
      refine lv_aload_n hx hb d_law_200 rfl (lv_at hl 0 rfl) ?_
      refine lv_iload_n hx hb d_law_201 rfl (lv_at hl 3 rfl) ?_
      refine lv_iconst (v := (1 : Int32)) hx hb d_law_202 (by decide) ?_
      refine lv_iadd hx hb d_law_203 ?_
      obtain ⟨b33, h⟩ := ok_g h
      refine va_sld hx hb hX hbl hbA hw.2.2 b33 d_law_204 ?_
      obtain ⟨r34, er34, h⟩ := ok_b h
      have hw : z_wd D (z_K ad ca q.1 ++ z_M bd cb q.2) (fun q : Nat => s.heap.size ≤ q) s H locs := hw
      refine z_Rvl (rest := [.long r32]) C0 (z_2tr hK) hw (c_Mo_get (xs (x3 + (1 : Int32)).toNatClampNeg) q.2 r34 er34) mw_Mo_get ml_La_30 0 rfl ⟨Nat.le_of_ble_eq_true rfl, Nat.le_of_ble_eq_true rfl⟩ ⟨Nat.le_of_ble_eq_true rfl, Nat.le_of_ble_eq_true rfl⟩ rfl hl.1 rfl (Nat.le_of_ble_eq_true rfl) d_law_205 (fun H locs hw => ?_)
      have hw : z_wd D (z_2 ad ca bd cb q) (fun q : Nat => s.heap.size ≤ q) s H locs := hw
      refine W.lcmp hx hb d_law_208 ?_
      refine lv_if_eq (tgt := 331) hx hb d_law_209 (by decide) (fun c35 => ?_) (fun c35 => ?_)
      · have h := ok_t h ((lg_cmp_eq _ _).mp c35)
        exact w_law_331 C0 hX hbl q ih18 hi18 x3 h H locs ls hw (lv_sub hl [0, 1, 2, 3] rfl)
      · have h := ok_f h (fun z => c35 ((lg_cmp_eq _ _).mpr z))
        refine lv_iconst (v := (0 : Int32)) hx hb d_law_212 (by decide) ?_
        exact absurd (Option.some.inj h) (by decide)
    have h := ok_f h c30
    by_cases c36 : ((xs x3.toNatClampNeg) &&& (7 : Int32)) = (4 : Int32)
    · have h := ok_t h c36
      refine lv_tableIn (off := 182) (tgt := 214) hx hb d_law_32 (by rw [c36]; decide) (by rw [c36]; decide) (by rw [c36]; rfl) (by decide) ?_
      refine lv_aload_n hx hb d_law_214 rfl (lv_at hl 1 rfl) ?_
      refine lv_aload_n hx hb d_law_215 rfl (lv_at hl 0 rfl) ?_
      refine lv_iload_n hx hb d_law_216 rfl (lv_at hl 3 rfl) ?_
      refine lv_iconst (v := (1 : Int32)) hx hb d_law_217 (by decide) ?_
      refine lv_iadd hx hb d_law_218 ?_
      obtain ⟨b37, h⟩ := ok_g h
      refine va_sld hx hb hX hbl hbA hw.2.2 b37 d_law_219 ?_
      refine lv_if_eq (tgt := 227) hx hb d_law_220 (by decide) (fun c38 => ?_) (fun c38 => ?_)
      · have h := ok_t h c38
        refine lv_iconst (v := (0 : Int32)) hx hb d_law_227 (by decide) ?_
        exact w_law_228 C0 hX hbl q ih18 hi18 x3 (0 : Int32) h H locs ls hw (lv_sub hl [0, 1, 2, 3] rfl)
      · have h := ok_f h c38
        refine lv_iconst (v := (1 : Int32)) hx hb d_law_223 (by decide) ?_
        refine lv_goto (tgt := 228) hx hb d_law_224 (by decide) ?_
        exact w_law_228 C0 hX hbl q ih18 hi18 x3 (1 : Int32) h H locs ls hw (lv_sub hl [0, 1, 2, 3] rfl)
    have h := ok_f h c36
    by_cases c43 : ((xs x3.toNatClampNeg) &&& (7 : Int32)) = (5 : Int32)
    · have h := ok_t h c43
      refine lv_tableIn (off := 219) (tgt := 251) hx hb d_law_32 (by rw [c43]; decide) (by rw [c43]; decide) (by rw [c43]; rfl) (by decide) ?_
      refine lv_aload_n hx hb d_law_251 rfl (lv_at hl 1 rfl) ?_
      obtain ⟨r44, er44, h⟩ := ok_b h
      have hw : z_wd D (z_K ad ca q.1 ++ z_M bd cb q.2) (fun q : Nat => s.heap.size ≤ q) s H locs := hw
      refine z_Lvi (rest := []) C0 (z_2tl hK) hw (c_Co_step q.1 r44 er44) mw_Co_step ml_La_36 0 rfl ⟨Nat.le_of_ble_eq_true rfl, Nat.le_of_ble_eq_true rfl⟩ ⟨Nat.le_of_ble_eq_true rfl, Nat.le_of_ble_eq_true rfl⟩ rfl hl.1 rfl (Nat.le_of_ble_eq_true rfl) d_law_252 (fun H locs hw => ?_)
      have hw : z_wd D (z_2 ad ca bd cb (r44.2, q.2)) (fun q : Nat => s.heap.size ≤ q) s H locs := hw
      refine lv_aload_n hx hb d_law_255 rfl (lv_at hl 2 rfl) ?_
      obtain ⟨r45, er45, h⟩ := ok_b h
      have hw : z_wd D (z_K ad ca r44.2 ++ z_M bd cb q.2) (fun q : Nat => s.heap.size ≤ q) s H locs := hw
      refine z_Rvi (rest := [.int r44.1]) C0 (z_2tr hK) hw (c_Mo_step q.2 r45 er45) mw_Mo_step ml_La_40 0 rfl ⟨Nat.le_of_ble_eq_true rfl, Nat.le_of_ble_eq_true rfl⟩ ⟨Nat.le_of_ble_eq_true rfl, Nat.le_of_ble_eq_true rfl⟩ rfl hl.1 rfl (Nat.le_of_ble_eq_true rfl) d_law_256 (fun H locs hw => ?_)
      have hw : z_wd D (z_2 ad ca bd cb (r44.2, r45.2)) (fun q : Nat => s.heap.size ≤ q) s H locs := hw
      refine lv_icmp_eq (tgt := 331) hx hb d_law_259 (by decide) (fun c46 => ?_) (fun c46 => ?_)
      · have h := ok_t h c46
        exact w_law_331 C0 hX hbl (r44.2, r45.2) ih18 hi18 x3 h H locs ls hw (lv_sub hl [0, 1, 2, 3] rfl)
      · have h := ok_f h c46
        refine lv_iconst (v := (0 : Int32)) hx hb d_law_262 (by decide) ?_
        exact absurd (Option.some.inj h) (by decide)
    have h := ok_f h c43
    by_cases c47 : ((xs x3.toNatClampNeg) &&& (7 : Int32)) = (6 : Int32)
    · have h := ok_t h c47
      refine lv_tableIn (off := 232) (tgt := 264) hx hb d_law_32 (by rw [c47]; decide) (by rw [c47]; decide) (by rw [c47]; rfl) (by decide) ?_
      refine lv_aload_n hx hb d_law_264 rfl (lv_at hl 1 rfl) ?_
      refine lv_aload_n hx hb d_law_265 rfl (lv_at hl 0 rfl) ?_
      refine lv_iload_n hx hb d_law_266 rfl (lv_at hl 3 rfl) ?_
      refine lv_iconst (v := (1 : Int32)) hx hb d_law_267 (by decide) ?_
      refine lv_iadd hx hb d_law_268 ?_
      obtain ⟨b48, h⟩ := ok_g h
      refine va_sld hx hb hX hbl hbA hw.2.2 b48 d_law_269 ?_
      obtain ⟨r49, er49, h⟩ := ok_b h
      have hw : z_wd D (z_K ad ca q.1 ++ z_M bd cb q.2) (fun q : Nat => s.heap.size ≤ q) s H locs := hw
      refine z_Lvi (rest := []) C0 (z_2tl hK) hw (c_Co_run (xs (x3 + (1 : Int32)).toNatClampNeg) q.1 r49 er49) mw_Co_run ml_La_41 0 rfl ⟨Nat.le_of_ble_eq_true rfl, Nat.le_of_ble_eq_true rfl⟩ ⟨Nat.le_of_ble_eq_true rfl, Nat.le_of_ble_eq_true rfl⟩ rfl hl.1 rfl (Nat.le_of_ble_eq_true rfl) d_law_270 (fun H locs hw => ?_)
      have hw : z_wd D (z_2 ad ca bd cb (r49.2, q.2)) (fun q : Nat => s.heap.size ≤ q) s H locs := hw
      refine lv_aload_n hx hb d_law_273 rfl (lv_at hl 2 rfl) ?_
      refine lv_aload_n hx hb d_law_274 rfl (lv_at hl 0 rfl) ?_
      refine lv_iload_n hx hb d_law_275 rfl (lv_at hl 3 rfl) ?_
      refine lv_iconst (v := (1 : Int32)) hx hb d_law_276 (by decide) ?_
      refine lv_iadd hx hb d_law_277 ?_
      obtain ⟨b50, h⟩ := ok_g h
      refine va_sld hx hb hX hbl hbA hw.2.2 b50 d_law_278 ?_
      obtain ⟨r51, er51, h⟩ := ok_b h
      have hw : z_wd D (z_K ad ca r49.2 ++ z_M bd cb q.2) (fun q : Nat => s.heap.size ≤ q) s H locs := hw
      refine z_Rvi (rest := [.int r49.1]) C0 (z_2tr hK) hw (c_Mo_run (xs (x3 + (1 : Int32)).toNatClampNeg) q.2 r51 er51) mw_Mo_run ml_La_45 0 rfl ⟨Nat.le_of_ble_eq_true rfl, Nat.le_of_ble_eq_true rfl⟩ ⟨Nat.le_of_ble_eq_true rfl, Nat.le_of_ble_eq_true rfl⟩ rfl hl.1 rfl (Nat.le_of_ble_eq_true rfl) d_law_279 (fun H locs hw => ?_)
      have hw : z_wd D (z_2 ad ca bd cb (r49.2, r51.2)) (fun q : Nat => s.heap.size ≤ q) s H locs := hw
      refine lv_icmp_eq (tgt := 331) hx hb d_law_282 (by decide) (fun c52 => ?_) (fun c52 => ?_)
      · have h := ok_t h c52
        exact w_law_331 C0 hX hbl (r49.2, r51.2) ih18 hi18 x3 h H locs ls hw (lv_sub hl [0, 1, 2, 3] rfl)
      · have h := ok_f h c52
        refine lv_iconst (v := (0 : Int32)) hx hb d_law_285 (by decide) ?_
        exact absurd (Option.some.inj h) (by decide)
    have h := ok_f h c47
    by_cases c53 : ((xs x3.toNatClampNeg) &&& (7 : Int32)) = (7 : Int32)
    · have h := ok_t h c53
      refine lv_tableIn (off := 255) (tgt := 287) hx hb d_law_32 (by rw [c53]; decide) (by rw [c53]; decide) (by rw [c53]; rfl) (by decide) ?_
      refine lv_aload_n hx hb d_law_287 rfl (lv_at hl 1 rfl) ?_
      refine lv_aload_n hx hb d_law_288 rfl (lv_at hl 0 rfl) ?_
      refine lv_iload_n hx hb d_law_289 rfl (lv_at hl 3 rfl) ?_
      refine lv_iconst (v := (1 : Int32)) hx hb d_law_290 (by decide) ?_
      refine lv_iadd hx hb d_law_291 ?_
      obtain ⟨b54, h⟩ := ok_g h
      refine va_sld hx hb hX hbl hbA hw.2.2 b54 d_law_292 ?_
      refine lv_aload_n hx hb d_law_293 rfl (lv_at hl 0 rfl) ?_
      refine lv_iload_n hx hb d_law_294 rfl (lv_at hl 3 rfl) ?_
      refine lv_iconst (v := (2 : Int32)) hx hb d_law_295 (by decide) ?_
      refine lv_iadd hx hb d_law_296 ?_
      obtain ⟨b55, h⟩ := ok_g h
      refine va_sld hx hb hX hbl hbA hw.2.2 b55 d_law_297 ?_
      refine lv_aload_n hx hb d_law_298 rfl (lv_at hl 0 rfl) ?_
      refine lv_iload_n hx hb d_law_299 rfl (lv_at hl 3 rfl) ?_
      refine lv_iconst (v := (3 : Int32)) hx hb d_law_300 (by decide) ?_
      refine lv_iadd hx hb d_law_301 ?_
      obtain ⟨b56, h⟩ := ok_g h
      refine va_sld hx hb hX hbl hbA hw.2.2 b56 d_law_302 ?_
      obtain ⟨r57, er57, h⟩ := ok_b h
      have hw : z_wd D (z_K ad ca q.1 ++ z_M bd cb q.2) (fun q : Nat => s.heap.size ≤ q) s H locs := hw
      refine z_Lvl (rest := []) C0 (z_2tl hK) hw (c_Co_look (xs (x3 + (1 : Int32)).toNatClampNeg) (xs (x3 + (2 : Int32)).toNatClampNeg) (xs (x3 + (3 : Int32)).toNatClampNeg) q.1 r57 er57) mw_Co_look ml_La_46 0 rfl ⟨Nat.le_of_ble_eq_true rfl, Nat.le_of_ble_eq_true rfl⟩ ⟨Nat.le_of_ble_eq_true rfl, Nat.le_of_ble_eq_true rfl⟩ rfl hl.1 rfl (Nat.le_of_ble_eq_true rfl) d_law_303 (fun H locs hw => ?_)
      have hw : z_wd D (z_2 ad ca bd cb q) (fun q : Nat => s.heap.size ≤ q) s H locs := hw
      refine lv_aload_n hx hb d_law_306 rfl (lv_at hl 2 rfl) ?_
      refine lv_aload_n hx hb d_law_307 rfl (lv_at hl 0 rfl) ?_
      refine lv_iload_n hx hb d_law_308 rfl (lv_at hl 3 rfl) ?_
      refine lv_iconst (v := (1 : Int32)) hx hb d_law_309 (by decide) ?_
      refine lv_iadd hx hb d_law_310 ?_
      obtain ⟨b58, h⟩ := ok_g h
      refine va_sld hx hb hX hbl hbA hw.2.2 b58 d_law_311 ?_
      refine lv_aload_n hx hb d_law_312 rfl (lv_at hl 0 rfl) ?_
      refine lv_iload_n hx hb d_law_313 rfl (lv_at hl 3 rfl) ?_
      refine lv_iconst (v := (2 : Int32)) hx hb d_law_314 (by decide) ?_
      refine lv_iadd hx hb d_law_315 ?_
      obtain ⟨b59, h⟩ := ok_g h
      refine va_sld hx hb hX hbl hbA hw.2.2 b59 d_law_316 ?_
      refine lv_aload_n hx hb d_law_317 rfl (lv_at hl 0 rfl) ?_
      refine lv_iload_n hx hb d_law_318 rfl (lv_at hl 3 rfl) ?_
      refine lv_iconst (v := (3 : Int32)) hx hb d_law_319 (by decide) ?_
      refine lv_iadd hx hb d_law_320 ?_
      obtain ⟨b60, h⟩ := ok_g h
      refine va_sld hx hb hX hbl hbA hw.2.2 b60 d_law_321 ?_
      obtain ⟨r61, er61, h⟩ := ok_b h
      have hw : z_wd D (z_K ad ca q.1 ++ z_M bd cb q.2) (fun q : Nat => s.heap.size ≤ q) s H locs := hw
      refine z_Rvl (rest := [.long r57]) C0 (z_2tr hK) hw (c_Mo_look (xs (x3 + (1 : Int32)).toNatClampNeg) (xs (x3 + (2 : Int32)).toNatClampNeg) (xs (x3 + (3 : Int32)).toNatClampNeg) q.2 r61 er61) mw_Mo_look ml_La_50 0 rfl ⟨Nat.le_of_ble_eq_true rfl, Nat.le_of_ble_eq_true rfl⟩ ⟨Nat.le_of_ble_eq_true rfl, Nat.le_of_ble_eq_true rfl⟩ rfl hl.1 rfl (Nat.le_of_ble_eq_true rfl) d_law_322 (fun H locs hw => ?_)
      have hw : z_wd D (z_2 ad ca bd cb (q.1, r61.2)) (fun q : Nat => s.heap.size ≤ q) s H locs := hw
      refine W.lcmp hx hb d_law_325 ?_
      refine lv_if_eq (tgt := 331) hx hb d_law_326 (by decide) (fun c62 => ?_) (fun c62 => ?_)
      · have h := ok_t h ((lg_cmp_eq _ _).mp c62)
        exact w_law_331 C0 hX hbl (q.1, r61.2) ih18 hi18 x3 h H locs ls hw (lv_sub hl [0, 1, 2, 3] rfl)
      · have h := ok_f h (fun z => c62 ((lg_cmp_eq _ _).mpr z))
        refine lv_iconst (v := (0 : Int32)) hx hb d_law_329 (by decide) ?_
        exact absurd (Option.some.inj h) (by decide)
    have h := ok_f h c53
    refine lv_tableOut (tgt := 331) hx hb d_law_32 (by have zc3 := lv_neT c3 (a := 0) rfl; have zc14 := lv_neT c14 (a := 1) rfl; have zc20 := lv_neT c20 (a := 2) rfl; have zc30 := lv_neT c30 (a := 3) rfl; have zc36 := lv_neT c36 (a := 4) rfl; have zc43 := lv_neT c43 (a := 5) rfl; have zc47 := lv_neT c47 (a := 6) rfl; have zc53 := lv_neT c53 (a := 7) rfl; omega) (by decide) ?_
    exact w_law_331 C0 hX hbl q ih18 hi18 x3 h H locs ls hw (lv_sub hl [0, 1, 2, 3] rfl)
theorem w_law_18 {p : Program} {l : Launch} {e : Env} {s : State} {m : MethodId} {below : List Frame} {meth : Method} {c : Code} {D : va_G} {ad : Nat → Nat} {ca : Nat → ClassId} {bd : Nat → Nat} {cb : Nat → ClassId} {b L : Nat} {xs : Nat → Int32} (C0 : z_cx z_RLa code 4 ret D (z_2t ca cb) (fun q : Nat => s.heap.size ≤ q) p s m #[Value.ref b] meth c) (hX : va_X b L xs s s.heap) (hbl : b < s.heap.size) (q : (z_Sg × z_Sg)) (x3 : Int32) (h : k_law_18 xs L x3 q = some 1) : ∀ (H : Heap) (locs : List Loc) (ls : Array Slot), z_wd D (z_2 ad ca bd cb q) (fun q : Nat => s.heap.size ≤ q) s H locs → lv_has ls 4 [(0, .ref b), (1, .ref (ad 0)), (2, .ref (bd 0)), (3, .int x3)] → W p l e room_1 s m #[Value.ref b] below meth c H locs 30 37115 (lw_Z below #[Value.ref b] s) (F0 m 18 ls []) := by
  have key : ∀ (n : Nat) (a : Int32 × (z_Sg × z_Sg)), z_lo (fun ih18 a => kb_law_18 xs L ih18 a.1 a.2) n a = some 1 → ∀ (H : Heap) (locs : List Loc) (ls : Array Slot), z_wd D (z_2 ad ca bd cb a.2) (fun q : Nat => s.heap.size ≤ q) s H locs → lv_has ls 4 [(0, .ref b), (1, .ref (ad 0)), (2, .ref (bd 0)), (3, .int a.1)] → W p l e room_1 s m #[Value.ref b] below meth c H locs 30 37115 (lw_Z below #[Value.ref b] s) (F0 m 18 ls []) := by
    intro n
    induction n with
    | zero => intro a h; cases h
    | succ n ih => exact fun a h => wb_law_18 C0 hX hbl a.2 (z_lo (fun ih18 a => kb_law_18 xs L ih18 a.1 a.2) n) ih a.1 h
  exact key 2000 (x3, q) h
