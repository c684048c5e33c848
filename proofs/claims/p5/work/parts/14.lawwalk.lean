def k_law_329 (xs : Nat → Int32) (L : Nat) (ih18 : Int32 × (z_Sg × z_Sg) → Option Int32) (x3 : Int32) (q : (z_Sg × z_Sg)) : Option Int32 :=
  z_nm (x3 + (4 : Int32)) (fun n12 => ih18 (n12, q))
def k_law_244 (xs : Nat → Int32) (L : Nat) (ih18 : Int32 × (z_Sg × z_Sg) → Option Int32) (x3 : Int32) (t1 : Int32) (q : (z_Sg × z_Sg)) : Option Int32 :=
  (f_Mo_level t1 q.2).bind (fun r39 => k_law_329 xs L ih18 x3 (q.1, r39))
def k_law_227 (xs : Nat → Int32) (L : Nat) (ih18 : Int32 × (z_Sg × z_Sg) → Option Int32) (x3 : Int32) (t1 : Int32) (q : (z_Sg × z_Sg)) : Option Int32 :=
  (f_Co_level t1 q.1).bind (fun r36 => if z_bad (x3 + (1 : Int32)) L then none else (if (xs (x3 + (1 : Int32)).toNatClampNeg) = 0 then (k_law_244 xs L ih18 x3 (0 : Int32) (r36, q.2)) else (k_law_244 xs L ih18 x3 (1 : Int32) (r36, q.2))))
def kb_law_18 (xs : Nat → Int32) (L : Nat) (ih18 : Int32 × (z_Sg × z_Sg) → Option Int32) (x3 : Int32) (q : (z_Sg × z_Sg)) : Option Int32 :=
  if ((Int32.ofNat L) - (4 : Int32)) < x3 then (some (1 : Int32)) else (if z_bad x3 L then none else (if ((xs x3.toNatClampNeg) &&& (7 : Int32)) = (0 : Int32) then (if z_bad (x3 + (1 : Int32)) L then none else (if z_bad (x3 + (2 : Int32)) L then none else (if z_bad (x3 + (3 : Int32)) L then none else ((f_Co_store (xs (x3 + (1 : Int32)).toNatClampNeg) (xs (x3 + (2 : Int32)).toNatClampNeg) (xs (x3 + (3 : Int32)).toNatClampNeg) q.1).bind (fun r7 => if z_bad (x3 + (1 : Int32)) L then none else (if z_bad (x3 + (2 : Int32)) L then none else (if z_bad (x3 + (3 : Int32)) L then none else ((f_Mo_store (xs (x3 + (1 : Int32)).toNatClampNeg) (xs (x3 + (2 : Int32)).toNatClampNeg) (xs (x3 + (3 : Int32)).toNatClampNeg) q.2).bind (fun r11 => k_law_329 xs L ih18 x3 (r7.2, r11.2)))))))))) else (if ((xs x3.toNatClampNeg) &&& (7 : Int32)) = (1 : Int32) then (if z_bad (x3 + (1 : Int32)) L then none else ((f_Co_stored (xs (x3 + (1 : Int32)).toNatClampNeg) q.1).bind (fun r15 => if z_bad (x3 + (1 : Int32)) L then none else ((f_Mo_stored (xs (x3 + (1 : Int32)).toNatClampNeg) q.2).bind (fun r17 => k_law_329 xs L ih18 x3 q))))) else (if ((xs x3.toNatClampNeg) &&& (7 : Int32)) = (2 : Int32) then (if z_bad (x3 + (1 : Int32)) L then none else (if z_bad (x3 + (2 : Int32)) L then none else (if z_bad (x3 + (3 : Int32)) L then none else ((f_Co_set (xs (x3 + (1 : Int32)).toNatClampNeg) (xs (x3 + (2 : Int32)).toNatClampNeg) (xs (x3 + (3 : Int32)).toNatClampNeg) q.1).bind (fun r22 => if z_bad (x3 + (1 : Int32)) L then none else (if z_bad (x3 + (2 : Int32)) L then none else (if z_bad (x3 + (3 : Int32)) L then none else ((f_Mo_set (xs (x3 + (1 : Int32)).toNatClampNeg) (xs (x3 + (2 : Int32)).toNatClampNeg) (xs (x3 + (3 : Int32)).toNatClampNeg) q.2).bind (fun r26 => k_law_329 xs L ih18 x3 (r22.2, r26.2)))))))))) else (if ((xs x3.toNatClampNeg) &&& (7 : Int32)) = (3 : Int32) then (if z_bad (x3 + (1 : Int32)) L then none else ((f_Co_get (xs (x3 + (1 : Int32)).toNatClampNeg) q.1).bind (fun r29 => if z_bad (x3 + (1 : Int32)) L then none else ((f_Mo_get (xs (x3 + (1 : Int32)).toNatClampNeg) q.2).bind (fun r31 => if r29 = r31 then (k_law_329 xs L ih18 x3 q) else (some (0 : Int32))))))) else (if ((xs x3.toNatClampNeg) &&& (7 : Int32)) = (4 : Int32) then (if z_bad (x3 + (1 : Int32)) L then none else (if (xs (x3 + (1 : Int32)).toNatClampNeg) = 0 then (k_law_227 xs L ih18 x3 (0 : Int32) q) else (k_law_227 xs L ih18 x3 (1 : Int32) q))) else (if ((xs x3.toNatClampNeg) &&& (7 : Int32)) = (5 : Int32) then ((f_Co_step q.1).bind (fun r41 => (f_Mo_step q.2).bind (fun r42 => k_law_329 xs L ih18 x3 (r41.2, r42.2)))) else (if ((xs x3.toNatClampNeg) &&& (7 : Int32)) = (6 : Int32) then (if z_bad (x3 + (1 : Int32)) L then none else ((f_Co_run (xs (x3 + (1 : Int32)).toNatClampNeg) q.1).bind (fun r45 => if z_bad (x3 + (1 : Int32)) L then none else ((f_Mo_run (xs (x3 + (1 : Int32)).toNatClampNeg) q.2).bind (fun r47 => k_law_329 xs L ih18 x3 (r45.2, r47.2)))))) else (if ((xs x3.toNatClampNeg) &&& (7 : Int32)) = (7 : Int32) then (if z_bad (x3 + (1 : Int32)) L then none else (if z_bad (x3 + (2 : Int32)) L then none else (if z_bad (x3 + (3 : Int32)) L then none else ((f_Co_look (xs (x3 + (1 : Int32)).toNatClampNeg) (xs (x3 + (2 : Int32)).toNatClampNeg) (xs (x3 + (3 : Int32)).toNatClampNeg) q.1).bind (fun r52 => if z_bad (x3 + (1 : Int32)) L then none else (if z_bad (x3 + (2 : Int32)) L then none else (if z_bad (x3 + (3 : Int32)) L then none else ((f_Mo_look (xs (x3 + (1 : Int32)).toNatClampNeg) (xs (x3 + (2 : Int32)).toNatClampNeg) (xs (x3 + (3 : Int32)).toNatClampNeg) q.2).bind (fun r56 => k_law_329 xs L ih18 x3 (q.1, r56.2)))))))))) else (k_law_329 xs L ih18 x3 q))))))))))
def k_law_18 (xs : Nat → Int32) (L : Nat) (x3 : Int32) (q : (z_Sg × z_Sg)) : Option Int32 := z_lo (fun ih18 a => kb_law_18 xs L ih18 a.1 a.2) 2000 (x3, q)
set_option maxHeartbeats 4000000 in
set_option maxRecDepth 100000 in
theorem w_law_329 {p : Program} {l : Launch} {e : Env} {s : State} {m : MethodId} {below : List Frame} {meth : Method} {c : Code} {D : va_G} {ad : Nat → Nat} {ca : Nat → ClassId} {bd : Nat → Nat} {cb : Nat → ClassId} {b L : Nat} {xs : Nat → Int32} (C0 : z_cx z_RLa code 4 ret D (z_2t ca cb) (fun q : Nat => s.heap.size ≤ q) p s m #[Value.ref b] meth c) (hX : va_X b L xs s s.heap) (hbl : b < s.heap.size) (q : (z_Sg × z_Sg)) (ih18 : Int32 × (z_Sg × z_Sg) → Option Int32) (hi18 : ∀ a : Int32 × (z_Sg × z_Sg), ih18 a = some 1 → ∀ (H : Heap) (locs : List Loc) (ls : Array Slot), z_wd D (z_2 ad ca bd cb a.2) (fun q : Nat => s.heap.size ≤ q) s H locs → lv_has ls 4 [(0, .ref b), (1, .ref (ad 0)), (2, .ref (bd 0)), (3, .int a.1)] → W p l e room_1 s m #[Value.ref b] below meth c H locs 30 37115 (lw_Z below #[Value.ref b] s) (F0 m 18 ls [])) (x3 : Int32) (h : k_law_329 xs L ih18 x3 q = some 1) : ∀ (H : Heap) (locs : List Loc) (ls : Array Slot), z_wd D (z_2 ad ca bd cb q) (fun q : Nat => s.heap.size ≤ q) s H locs → lv_has ls 4 [(0, .ref b), (1, .ref (ad 0)), (2, .ref (bd 0)), (3, .int x3)] → W p l e room_1 s m #[Value.ref b] below meth c H locs 30 37115 (lw_Z below #[Value.ref b] s) (F0 m 329 ls []) := by
  obtain ⟨hx, hb, hr, hlk, hml, hown, hts, hK, hA⟩ := id C0
  have hbA : ¬ (fun q : Nat => s.heap.size ≤ q) b := Nat.not_le.mpr hbl
  intro H locs ls hw hl
  obtain ⟨n12, en12, h⟩ := ok_n h
  refine lv_iinc (v := n12) (lv' := [(3, .int n12), (0, .ref b), (1, .ref (ad 0)), (2, .ref (bd 0))]) hx hb d_law_329 hl (k := 3) rfl (by rw [en12]; rfl) (by decide) rfl (fun ls hl => ?_)
  refine lv_goto (tgt := 18) hx hb d_law_332 (by decide) ?_
  exact hi18 (n12, q) h H locs ls hw (lv_sub hl [1, 2, 3, 0] rfl)
set_option maxHeartbeats 4000000 in
set_option maxRecDepth 100000 in
theorem w_law_244 {p : Program} {l : Launch} {e : Env} {s : State} {m : MethodId} {below : List Frame} {meth : Method} {c : Code} {D : va_G} {ad : Nat → Nat} {ca : Nat → ClassId} {bd : Nat → Nat} {cb : Nat → ClassId} {b L : Nat} {xs : Nat → Int32} (C0 : z_cx z_RLa code 4 ret D (z_2t ca cb) (fun q : Nat => s.heap.size ≤ q) p s m #[Value.ref b] meth c) (hX : va_X b L xs s s.heap) (hbl : b < s.heap.size) (q : (z_Sg × z_Sg)) (ih18 : Int32 × (z_Sg × z_Sg) → Option Int32) (hi18 : ∀ a : Int32 × (z_Sg × z_Sg), ih18 a = some 1 → ∀ (H : Heap) (locs : List Loc) (ls : Array Slot), z_wd D (z_2 ad ca bd cb a.2) (fun q : Nat => s.heap.size ≤ q) s H locs → lv_has ls 4 [(0, .ref b), (1, .ref (ad 0)), (2, .ref (bd 0)), (3, .int a.1)] → W p l e room_1 s m #[Value.ref b] below meth c H locs 30 37115 (lw_Z below #[Value.ref b] s) (F0 m 18 ls [])) (x3 : Int32) (t1 : Int32) (h : k_law_244 xs L ih18 x3 t1 q = some 1) : ∀ (H : Heap) (locs : List Loc) (ls : Array Slot), z_wd D (z_2 ad ca bd cb q) (fun q : Nat => s.heap.size ≤ q) s H locs → lv_has ls 4 [(0, .ref b), (1, .ref (ad 0)), (2, .ref (bd 0)), (3, .int x3)] → W p l e room_1 s m #[Value.ref b] below meth c H locs 30 37115 (lw_Z below #[Value.ref b] s) (F0 m 244 ls [.int t1, .ref (bd 0)]) := by
  obtain ⟨hx, hb, hr, hlk, hml, hown, hts, hK, hA⟩ := id C0
  have hbA : ¬ (fun q : Nat => s.heap.size ≤ q) b := Nat.not_le.mpr hbl
  intro H locs ls hw hl
  obtain ⟨r39, er39, h⟩ := ok_b h
  have hw : z_wd D (z_K ad ca q.1 ++ z_M bd cb q.2) (fun q : Nat => s.heap.size ≤ q) s H locs := hw
  refine z_Rvv (rest := []) C0 (z_2tr hK) hw (c_Mo_level t1 q.2 r39 er39) mw_Mo_level ml_La_35 0 rfl ⟨Nat.le_of_ble_eq_true rfl, Nat.le_of_ble_eq_true rfl⟩ ⟨Nat.le_of_ble_eq_true rfl, Nat.le_of_ble_eq_true rfl⟩ rfl hl.1 rfl (Nat.le_of_ble_eq_true rfl) d_law_244 (fun H locs hw => ?_)
  have hw : z_wd D (z_2 ad ca bd cb (q.1, r39)) (fun q : Nat => s.heap.size ≤ q) s H locs := hw
  refine lv_goto (tgt := 329) hx hb d_law_247 (by decide) ?_
  exact w_law_329 C0 hX hbl (q.1, r39) ih18 hi18 x3 h H locs ls hw (lv_sub hl [0, 1, 2, 3] rfl)
set_option maxHeartbeats 4000000 in
set_option maxRecDepth 100000 in
theorem w_law_227 {p : Program} {l : Launch} {e : Env} {s : State} {m : MethodId} {below : List Frame} {meth : Method} {c : Code} {D : va_G} {ad : Nat → Nat} {ca : Nat → ClassId} {bd : Nat → Nat} {cb : Nat → ClassId} {b L : Nat} {xs : Nat → Int32} (C0 : z_cx z_RLa code 4 ret D (z_2t ca cb) (fun q : Nat => s.heap.size ≤ q) p s m #[Value.ref b] meth c) (hX : va_X b L xs s s.heap) (hbl : b < s.heap.size) (q : (z_Sg × z_Sg)) (ih18 : Int32 × (z_Sg × z_Sg) → Option Int32) (hi18 : ∀ a : Int32 × (z_Sg × z_Sg), ih18 a = some 1 → ∀ (H : Heap) (locs : List Loc) (ls : Array Slot), z_wd D (z_2 ad ca bd cb a.2) (fun q : Nat => s.heap.size ≤ q) s H locs → lv_has ls 4 [(0, .ref b), (1, .ref (ad 0)), (2, .ref (bd 0)), (3, .int a.1)] → W p l e room_1 s m #[Value.ref b] below meth c H locs 30 37115 (lw_Z below #[Value.ref b] s) (F0 m 18 ls [])) (x3 : Int32) (t1 : Int32) (h : k_law_227 xs L ih18 x3 t1 q = some 1) : ∀ (H : Heap) (locs : List Loc) (ls : Array Slot), z_wd D (z_2 ad ca bd cb q) (fun q : Nat => s.heap.size ≤ q) s H locs → lv_has ls 4 [(0, .ref b), (1, .ref (ad 0)), (2, .ref (bd 0)), (3, .int x3)] → W p l e room_1 s m #[Value.ref b] below meth c H locs 30 37115 (lw_Z below #[Value.ref b] s) (F0 m 227 ls [.int t1, .ref (ad 0)]) := by
  obtain ⟨hx, hb, hr, hlk, hml, hown, hts, hK, hA⟩ := id C0
  have hbA : ¬ (fun q : Nat => s.heap.size ≤ q) b := Nat.not_le.mpr hbl
  intro H locs ls hw hl
  obtain ⟨r36, er36, h⟩ := ok_b h
  have hw : z_wd D (z_K ad ca q.1 ++ z_M bd cb q.2) (fun q : Nat => s.heap.size ≤ q) s H locs := hw
  refine z_Lvv (rest := []) C0 (z_2tl hK) hw (c_Co_level t1 q.1 r36 er36) mw_Co_level ml_La_31 0 rfl ⟨Nat.le_of_ble_eq_true rfl, Nat.le_of_ble_eq_true rfl⟩ ⟨Nat.le_of_ble_eq_true rfl, Nat.le_of_ble_eq_true rfl⟩ rfl hl.1 rfl (Nat.le_of_ble_eq_true rfl) d_law_227 (fun H locs hw => ?_)
  have hw : z_wd D (z_2 ad ca bd cb (r36, q.2)) (fun q : Nat => s.heap.size ≤ q) s H locs := hw
  refine lv_aload_n hx hb d_law_230 rfl (lv_at hl 2 rfl) ?_
  refine lv_aload_n hx hb d_law_231 rfl (lv_at hl 0 rfl) ?_
  refine lv_iload_n hx hb d_law_232 rfl (lv_at hl 3 rfl) ?_
  refine lv_iconst (v := (1 : Int32)) hx hb d_law_233 (by decide) ?_
  refine lv_iadd hx hb d_law_234 ?_
  obtain ⟨b37, h⟩ := ok_g h
  refine va_sld hx hb hX hbl hbA hw.2.2 b37 d_law_235 ?_
  refine lv_if_eq (tgt := 243) hx hb d_law_236 (by decide) (fun c38 => ?_) (fun c38 => ?_)
  · have h := ok_t h c38
    refine lv_iconst (v := (0 : Int32)) hx hb d_law_243 (by decide) ?_
    exact w_law_244 C0 hX hbl (r36, q.2) ih18 hi18 x3 (0 : Int32) h H locs ls hw (lv_sub hl [0, 1, 2, 3] rfl)
  · have h := ok_f h c38
    refine lv_iconst (v := (1 : Int32)) hx hb d_law_239 (by decide) ?_
    refine lv_goto (tgt := 244) hx hb d_law_240 (by decide) ?_
    exact w_law_244 C0 hX hbl (r36, q.2) ih18 hi18 x3 (1 : Int32) h H locs ls hw (lv_sub hl [0, 1, 2, 3] rfl)
set_option maxHeartbeats 4000000 in
set_option maxRecDepth 100000 in
theorem wb_law_18 {p : Program} {l : Launch} {e : Env} {s : State} {m : MethodId} {below : List Frame} {meth : Method} {c : Code} {D : va_G} {ad : Nat → Nat} {ca : Nat → ClassId} {bd : Nat → Nat} {cb : Nat → ClassId} {b L : Nat} {xs : Nat → Int32} (C0 : z_cx z_RLa code 4 ret D (z_2t ca cb) (fun q : Nat => s.heap.size ≤ q) p s m #[Value.ref b] meth c) (hX : va_X b L xs s s.heap) (hbl : b < s.heap.size) (q : (z_Sg × z_Sg)) (ih18 : Int32 × (z_Sg × z_Sg) → Option Int32) (hi18 : ∀ a : Int32 × (z_Sg × z_Sg), ih18 a = some 1 → ∀ (H : Heap) (locs : List Loc) (ls : Array Slot), z_wd D (z_2 ad ca bd cb a.2) (fun q : Nat => s.heap.size ≤ q) s H locs → lv_has ls 4 [(0, .ref b), (1, .ref (ad 0)), (2, .ref (bd 0)), (3, .int a.1)] → W p l e room_1 s m #[Value.ref b] below meth c H locs 30 37115 (lw_Z below #[Value.ref b] s) (F0 m 18 ls [])) (x3 : Int32) (h : kb_law_18 xs L ih18 x3 q = some 1) : ∀ (H : Heap) (locs : List Loc) (ls : Array Slot), z_wd D (z_2 ad ca bd cb q) (fun q : Nat => s.heap.size ≤ q) s H locs → lv_has ls 4 [(0, .ref b), (1, .ref (ad 0)), (2, .ref (bd 0)), (3, .int x3)] → W p l e room_1 s m #[Value.ref b] below meth c H locs 30 37115 (lw_Z below #[Value.ref b] s) (F0 m 18 ls []) := by
  obtain ⟨hx, hb, hr, hlk, hml, hown, hts, hK, hA⟩ := id C0
  have hbA : ¬ (fun q : Nat => s.heap.size ≤ q) b := Nat.not_le.mpr hbl
  intro H locs ls hw hl
  refine lv_iload_n hx hb d_law_18 rfl (lv_at hl 3 rfl) ?_
  refine lv_aload_n hx hb d_law_19 rfl (lv_at hl 0 rfl) ?_
  refine va_slen hx hb hX hbl hbA hw.2.2 d_law_20 ?_
  refine lv_iconst (v := (4 : Int32)) hx hb d_law_21 (by decide) ?_
  refine lv_isub hx hb d_law_22 ?_
  refine lv_icmp_gt (tgt := 335) hx hb d_law_23 (by decide) (fun c1 => ?_) (fun c1 => ?_)
  · have h := ok_t h c1
    refine lv_iconst (v := (1 : Int32)) hx hb d_law_335 (by decide) ?_
    refine va_forget (fun q hq => hw.2.2.2.2 q hq) ?_
    refine W.widen (k := 600000) (n := 7302249) (Nat.le_of_ble_eq_true rfl) (Nat.le_of_ble_eq_true rfl) ?_
    exact lw_ret hx hb hr hlk d_law_336
  · have h := ok_f h c1
    refine lv_aload_n hx hb d_law_26 rfl (lv_at hl 0 rfl) ?_
    refine lv_iload_n hx hb d_law_27 rfl (lv_at hl 3 rfl) ?_
    obtain ⟨b2, h⟩ := ok_g h
    refine va_sld hx hb hX hbl hbA hw.2.2 b2 d_law_28 ?_
    refine lv_bipush (v := (7 : Int32)) hx hb d_law_29 (by decide) ?_
    refine lv_iand hx hb d_law_31 ?_
    by_cases c3 : ((xs x3.toNatClampNeg) &&& (7 : Int32)) = (0 : Int32)
    · have h := ok_t h c3
      refine lv_tableIn (off := 48) (tgt := 80) hx hb d_law_32 (by rw [c3]; decide) (by rw [c3]; decide) (by rw [c3]; rfl) (by decide) ?_
      refine lv_aload_n hx hb d_law_80 rfl (lv_at hl 1 rfl) ?_
      refine lv_aload_n hx hb d_law_81 rfl (lv_at hl 0 rfl) ?_
      refine lv_iload_n hx hb d_law_82 rfl (lv_at hl 3 rfl) ?_
      refine lv_iconst (v := (1 : Int32)) hx hb d_law_83 (by decide) ?_
      refine lv_iadd hx hb d_law_84 ?_
      obtain ⟨b4, h⟩ := ok_g h
      refine va_sld hx hb hX hbl hbA hw.2.2 b4 d_law_85 ?_
      refine lv_aload_n hx hb d_law_86 rfl (lv_at hl 0 rfl) ?_
      refine lv_iload_n hx hb d_law_87 rfl (lv_at hl 3 rfl) ?_
      refine lv_iconst (v := (2 : Int32)) hx hb d_law_88 (by decide) ?_
      refine lv_iadd hx hb d_law_89 ?_
      obtain ⟨b5, h⟩ := ok_g h
      refine va_sld hx hb hX hbl hbA hw.2.2 b5 d_law_90 ?_
      refine lv_aload_n hx hb d_law_91 rfl (lv_at hl 0 rfl) ?_
      refine lv_iload_n hx hb d_law_92 rfl (lv_at hl 3 rfl) ?_
      refine lv_iconst (v := (3 : Int32)) hx hb d_law_93 (by decide) ?_
      refine lv_iadd hx hb d_law_94 ?_
      obtain ⟨b6, h⟩ := ok_g h
      refine va_sld hx hb hX hbl hbA hw.2.2 b6 d_law_95 ?_
      obtain ⟨r7, er7, h⟩ := ok_b h
      have hw : z_wd D (z_K ad ca q.1 ++ z_M bd cb q.2) (fun q : Nat => s.heap.size ≤ q) s H locs := hw
      refine z_Lvi (rest := []) C0 (z_2tl hK) hw (c_Co_store (xs (x3 + (1 : Int32)).toNatClampNeg) (xs (x3 + (2 : Int32)).toNatClampNeg) (xs (x3 + (3 : Int32)).toNatClampNeg) q.1 r7 er7) mw_Co_store ml_La_13 0 rfl ⟨Nat.le_of_ble_eq_true rfl, Nat.le_of_ble_eq_true rfl⟩ ⟨Nat.le_of_ble_eq_true rfl, Nat.le_of_ble_eq_true rfl⟩ rfl hl.1 rfl (Nat.le_of_ble_eq_true rfl) d_law_96 (fun H locs hw => ?_)
      have hw : z_wd D (z_2 ad ca bd cb (r7.2, q.2)) (fun q : Nat => s.heap.size ≤ q) s H locs := hw
      refine lv_pop hx hb d_law_99 rfl ?_
      refine lv_aload_n hx hb d_law_100 rfl (lv_at hl 2 rfl) ?_
      refine lv_aload_n hx hb d_law_101 rfl (lv_at hl 0 rfl) ?_
      refine lv_iload_n hx hb d_law_102 rfl (lv_at hl 3 rfl) ?_
      refine lv_iconst (v := (1 : Int32)) hx hb d_law_103 (by decide) ?_
      refine lv_iadd hx hb d_law_104 ?_
      obtain ⟨b8, h⟩ := ok_g h
      refine va_sld hx hb hX hbl hbA hw.2.2 b8 d_law_105 ?_
      refine lv_aload_n hx hb d_law_106 rfl (lv_at hl 0 rfl) ?_
      refine lv_iload_n hx hb d_law_107 rfl (lv_at hl 3 rfl) ?_
      refine lv_iconst (v := (2 : Int32)) hx hb d_law_108 (by decide) ?_
      refine lv_iadd hx hb d_law_109 ?_
      obtain ⟨b9, h⟩ := ok_g h
      refine va_sld hx hb hX hbl hbA hw.2.2 b9 d_law_110 ?_
      refine lv_aload_n hx hb d_law_111 rfl (lv_at hl 0 rfl) ?_
      refine lv_iload_n hx hb d_law_112 rfl (lv_at hl 3 rfl) ?_
      refine lv_iconst (v := (3 : Int32)) hx hb d_law_113 (by decide) ?_
      refine lv_iadd hx hb d_law_114 ?_
      obtain ⟨b10, h⟩ := ok_g h
      refine va_sld hx hb hX hbl hbA hw.2.2 b10 d_law_115 ?_
      obtain ⟨r11, er11, h⟩ := ok_b h
      have hw : z_wd D (z_K ad ca r7.2 ++ z_M bd cb q.2) (fun q : Nat => s.heap.size ≤ q) s H locs := hw
      refine z_Rvi (rest := []) C0 (z_2tr hK) hw (c_Mo_store (xs (x3 + (1 : Int32)).toNatClampNeg) (xs (x3 + (2 : Int32)).toNatClampNeg) (xs (x3 + (3 : Int32)).toNatClampNeg) q.2 r11 er11) mw_Mo_store ml_La_17 0 rfl ⟨Nat.le_of_ble_eq_true rfl, Nat.le_of_ble_eq_true rfl⟩ ⟨Nat.le_of_ble_eq_true rfl, Nat.le_of_ble_eq_true rfl⟩ rfl hl.1 rfl (Nat.le_of_ble_eq_true rfl) d_law_116 (fun H locs hw => ?_)
      have hw : z_wd D (z_2 ad ca bd cb (r7.2, r11.2)) (fun q : Nat => s.heap.size ≤ q) s H locs := hw
      refine lv_pop hx hb d_law_119 rfl ?_
      refine lv_goto (tgt := 329) hx hb d_law_120 (by decide) ?_
      exact w_law_329 C0 hX hbl (r7.2, r11.2) ih18 hi18 x3 h H locs ls hw (lv_sub hl [0, 1, 2, 3] rfl)
    have h := ok_f h c3
    by_cases c13 : ((xs x3.toNatClampNeg) &&& (7 : Int32)) = (1 : Int32)
    · have h := ok_t h c13
      refine lv_tableIn (off := 91) (tgt := 123) hx hb d_law_32 (by rw [c13]; decide) (by rw [c13]; decide) (by rw [c13]; rfl) (by decide) ?_
      refine lv_aload_n hx hb d_law_123 rfl (lv_at hl 1 rfl) ?_
      refine lv_aload_n hx hb d_law_124 rfl (lv_at hl 0 rfl) ?_
      refine lv_iload_n hx hb d_law_125 rfl (lv_at hl 3 rfl) ?_
      refine lv_iconst (v := (1 : Int32)) hx hb d_law_126 (by decide) ?_
      refine lv_iadd hx hb d_law_127 ?_
      obtain ⟨b14, h⟩ := ok_g h
      refine va_sld hx hb hX hbl hbA hw.2.2 b14 d_law_128 ?_
      obtain ⟨r15, er15, h⟩ := ok_b h
      have hw : z_wd D (z_K ad ca q.1 ++ z_M bd cb q.2) (fun q : Nat => s.heap.size ≤ q) s H locs := hw
      refine z_Lvl (rest := []) C0 (z_2tl hK) hw (c_Co_stored (xs (x3 + (1 : Int32)).toNatClampNeg) q.1 r15 er15) mw_Co_stored ml_La_18 0 rfl ⟨Nat.le_of_ble_eq_true rfl, Nat.le_of_ble_eq_true rfl⟩ ⟨Nat.le_of_ble_eq_true rfl, Nat.le_of_ble_eq_true rfl⟩ rfl hl.1 rfl (Nat.le_of_ble_eq_true rfl) d_law_129 (fun H locs hw => ?_)
      have hw : z_wd D (z_2 ad ca bd cb q) (fun q : Nat => s.heap.size ≤ q) s H locs := hw
      refine lv_pop2_2 hx hb d_law_132 rfl ?_
      refine lv_aload_n hx hb d_law_133 rfl (lv_at hl 2 rfl) ?_
      refine lv_aload_n hx hb d_law_134 rfl (lv_at hl 0 rfl) ?_
      refine lv_iload_n hx hb d_law_135 rfl (lv_at hl 3 rfl) ?_
      refine lv_iconst (v := (1 : Int32)) hx hb d_law_136 (by decide) ?_
      refine lv_iadd hx hb d_law_137 ?_
      obtain ⟨b16, h⟩ := ok_g h
      refine va_sld hx hb hX hbl hbA hw.2.2 b16 d_law_138 ?_
      obtain ⟨r17, er17, h⟩ := ok_b h
      have hw : z_wd D (z_K ad ca q.1 ++ z_M bd cb q.2) (fun q : Nat => s.heap.size ≤ q) s H locs := hw
      refine z_Rvl (rest := []) C0 (z_2tr hK) hw (c_Mo_stored (xs (x3 + (1 : Int32)).toNatClampNeg) q.2 r17 er17) mw_Mo_stored ml_La_22 0 rfl ⟨Nat.le_of_ble_eq_true rfl, Nat.le_of_ble_eq_true rfl⟩ ⟨Nat.le_of_ble_eq_true rfl, Nat.le_of_ble_eq_true rfl⟩ rfl hl.1 rfl (Nat.le_of_ble_eq_true rfl) d_law_139 (fun H locs hw => ?_)
      have hw : z_wd D (z_2 ad ca bd cb q) (fun q : Nat => s.heap.size ≤ q) s H locs := hw
      refine lv_pop2_2 hx hb d_law_142 rfl ?_
      refine lv_goto (tgt := 329) hx hb d_law_143 (by decide) ?_
      exact w_law_329 C0 hX hbl q ih18 hi18 x3 h H locs ls hw (lv_sub hl [0, 1, 2, 3] rfl)
    have h := ok_f h c13
    by_cases c18 : ((xs x3.toNatClampNeg) &&& (7 : Int32)) = (2 : Int32)
    · have h := ok_t h c18
      refine lv_tableIn (off := 114) (tgt := 146) hx hb d_law_32 (by rw [c18]; decide) (by rw [c18]; decide) (by rw [c18]; rfl) (by decide) ?_
      refine lv_aload_n hx hb d_law_146 rfl (lv_at hl 1 rfl) ?_
      refine lv_aload_n hx hb d_law_147 rfl (lv_at hl 0 rfl) ?_
      refine lv_iload_n hx hb d_law_148 rfl (lv_at hl 3 rfl) ?_
      refine lv_iconst (v := (1 : Int32)) hx hb d_law_149 (by decide) ?_
      refine lv_iadd hx hb d_law_150 ?_
      obtain ⟨b19, h⟩ := ok_g h
      refine va_sld hx hb hX hbl hbA hw.2.2 b19 d_law_151 ?_
      refine lv_aload_n hx hb d_law_152 rfl (lv_at hl 0 rfl) ?_
      refine lv_iload_n hx hb d_law_153 rfl (lv_at hl 3 rfl) ?_
      refine lv_iconst (v := (2 : Int32)) hx hb d_law_154 (by decide) ?_
      refine lv_iadd hx hb d_law_155 ?_
      obtain ⟨b20, h⟩ := ok_g h
      refine va_sld hx hb hX hbl hbA hw.2.2 b20 d_law_156 ?_
      refine lv_aload_n hx hb d_law_157 rfl (lv_at hl 0 rfl) ?_
      refine lv_iload_n hx hb d_law_158 rfl (lv_at hl 3 rfl) ?_
      refine lv_iconst (v := (3 : Int32)) hx hb d_law_159 (by decide) ?_
      refine lv_iadd hx hb d_law_160 ?_
      obtain ⟨b21, h⟩ := ok_g h
      refine va_sld hx hb hX hbl hbA hw.2.2 b21 d_law_161 ?_
      obtain ⟨r22, er22, h⟩ := ok_b h
      have hw : z_wd D (z_K ad ca q.1 ++ z_M bd cb q.2) (fun q : Nat => s.heap.size ≤ q) s H locs := hw
      refine z_Lvi (rest := []) C0 (z_2tl hK) hw (c_Co_set (xs (x3 + (1 : Int32)).toNatClampNeg) (xs (x3 + (2 : Int32)).toNatClampNeg) (xs (x3 + (3 : Int32)).toNatClampNeg) q.1 r22 er22) mw_Co_set ml_La_23 0 rfl ⟨Nat.le_of_ble_eq_true rfl, Nat.le_of_ble_eq_true rfl⟩ ⟨Nat.le_of_ble_eq_true rfl, Nat.le_of_ble_eq_true rfl⟩ rfl hl.1 rfl (Nat.le_of_ble_eq_true rfl) d_law_162 (fun H locs hw => ?_)
      have hw : z_wd D (z_2 ad ca bd cb (r22.2, q.2)) (fun q : Nat => s.heap.size ≤ q) s H locs := hw
      refine lv_pop hx hb d_law_165 rfl ?_
      refine lv_aload_n hx hb d_law_166 rfl (lv_at hl 2 rfl) ?_
      refine lv_aload_n hx hb d_law_167 rfl (lv_at hl 0 rfl) ?_
      refine lv_iload_n hx hb d_law_168 rfl (lv_at hl 3 rfl) ?_
      refine lv_iconst (v := (1 : Int32)) hx hb d_law_169 (by decide) ?_
      refine lv_iadd hx hb d_law_170 ?_
      obtain ⟨b23, h⟩ := ok_g h
      refine va_sld hx hb hX hbl hbA hw.2.2 b23 d_law_171 ?_
      refine lv_aload_n hx hb d_law_172 rfl (lv_at hl 0 rfl) ?_
      refine lv_iload_n hx hb d_law_173 rfl (lv_at hl 3 rfl) ?_
      refine lv_iconst (v := (2 : Int32)) hx hb d_law_174 (by decide) ?_
      refine lv_iadd hx hb d_law_175 ?_
      obtain ⟨b24, h⟩ := ok_g h
      refine va_sld hx hb hX hbl hbA hw.2.2 b24 d_law_176 ?_
      refine lv_aload_n hx hb d_law_177 rfl (lv_at hl 0 rfl) ?_
      refine lv_iload_n hx hb d_law_178 rfl (lv_at hl 3 rfl) ?_
      refine lv_iconst (v := (3 : Int32)) hx hb d_law_179 (by decide) ?_
      refine lv_iadd hx hb d_law_180 ?_
      obtain ⟨b25, h⟩ := ok_g h
      refine va_sld hx hb hX hbl hbA hw.2.2 b25 d_law_181 ?_
      obtain ⟨r26, er26, h⟩ := ok_b h
      have hw : z_wd D (z_K ad ca r22.2 ++ z_M bd cb q.2) (fun q : Nat => s.heap.size ≤ q) s H locs := hw
      refine z_Rvi (rest := []) C0 (z_2tr hK) hw (c_Mo_set (xs (x3 + (1 : Int32)).toNatClampNeg) (xs (x3 + (2 : Int32)).toNatClampNeg) (xs (x3 + (3 : Int32)).toNatClampNeg) q.2 r26 er26) mw_Mo_set ml_La_26 0 rfl ⟨Nat.le_of_ble_eq_true rfl, Nat.le_of_ble_eq_true rfl⟩ ⟨Nat.le_of_ble_eq_true rfl, Nat.le_of_ble_eq_true rfl⟩ rfl hl.1 rfl (Nat.le_of_ble_eq_true rfl) d_law_182 (fun H locs hw => ?_)
      have hw : z_wd D (z_2 ad ca bd cb (r22.2, r26.2)) (fun q : Nat => s.heap.size ≤ q) s H locs := hw
      refine lv_pop hx hb d_law_185 rfl ?_
      refine lv_goto (tgt := 329) hx hb d_law_186 (by decide) ?_
      exact w_law_329 C0 hX hbl (r22.2, r26.2) ih18 hi18 x3 h H locs ls hw (lv_sub hl [0, 1, 2, 3] rfl)
    have h := ok_f h c18
    by_cases c27 : ((xs x3.toNatClampNeg) &&& (7 : Int32)) = (3 : Int32)
    · have h := ok_t h c27
      refine lv_tableIn (off := 157) (tgt := 189) hx hb d_law_32 (by rw [c27]; decide) (by rw [c27]; decide) (by rw [c27]; rfl) (by decide) ?_
      refine lv_aload_n hx hb d_law_189 rfl (lv_at hl 1 rfl) ?_
      refine lv_aload_n hx hb d_law_190 rfl (lv_at hl 0 rfl) ?_
      refine lv_iload_n hx hb d_law_191 rfl (lv_at hl 3 rfl) ?_
      refine lv_iconst (v := (1 : Int32)) hx hb d_law_192 (by decide) ?_
      refine lv_iadd hx hb d_law_193 ?_
      obtain ⟨b28, h⟩ := ok_g h
      refine va_sld hx hb hX hbl hbA hw.2.2 b28 d_law_194 ?_
      obtain ⟨r29, er29, h⟩ := ok_b h
      have hw : z_wd D (z_K ad ca q.1 ++ z_M bd cb q.2) (fun q : Nat => s.heap.size ≤ q) s H locs := hw
      refine z_Lvl (rest := []) C0 (z_2tl hK) hw (c_Co_get (xs (x3 + (1 : Int32)).toNatClampNeg) q.1 r29 er29) mw_Co_get ml_La_27 0 rfl ⟨Nat.le_of_ble_eq_true rfl, Nat.le_of_ble_eq_true rfl⟩ ⟨Nat.le_of_ble_eq_true rfl, Nat.le_of_ble_eq_true rfl⟩ rfl hl.1 rfl (Nat.le_of_ble_eq_true rfl) d_law_195 (fun H locs hw => ?_)
      have hw : z_wd D (z_2 ad ca bd cb q) (fun q : Nat => s.heap.size ≤ q) s H locs := hw
      refine lv_aload_n hx hb d_law_198 rfl (lv_at hl 2 rfl) ?_
      refine lv_aload_n hx hb d_law_199 rfl (lv_at hl 0 rfl) ?_
      refine lv_iload_n hx hb d_law_200 rfl (lv_at hl 3 rfl) ?_
      refine lv_iconst (v := (1 : Int32)) hx hb d_law_201 (by decide) ?_
      refine lv_iadd hx hb d_law_202 ?_
      obtain ⟨b30, h⟩ := ok_g h
      refine va_sld hx hb hX hbl hbA hw.2.2 b30 d_law_203 ?_
      obtain ⟨r31, er31, h⟩ := ok_b h
      have hw : z_wd D (z_K ad ca q.1 ++ z_M bd cb q.2) (fun q : Nat => s.heap.size ≤ q) s H locs := hw
      refine z_Rvl (rest := [.long r29]) C0 (z_2tr hK) hw (c_Mo_get (xs (x3 + (1 : Int32)).toNatClampNeg) q.2 r31 er31) mw_Mo_get ml_La_30 0 rfl ⟨Nat.le_of_ble_eq_true rfl, Nat.le_of_ble_eq_true rfl⟩ ⟨Nat.le_of_ble_eq_true rfl, Nat.le_of_ble_eq_true rfl⟩ rfl hl.1 rfl (Nat.le_of_ble_eq_true rfl) d_law_204 (fun H locs hw => ?_)
      have hw : z_wd D (z_2 ad ca bd cb q) (fun q : Nat => s.heap.size ≤ q) s H locs := hw
      refine W.lcmp hx hb d_law_207 ?_
      refine lv_if_eq (tgt := 329) hx hb d_law_208 (by decide) (fun c32 => ?_) (fun c32 => ?_)
      · have h := ok_t h ((lg_cmp_eq _ _).mp c32)
        exact w_law_329 C0 hX hbl q ih18 hi18 x3 h H locs ls hw (lv_sub hl [0, 1, 2, 3] rfl)
      · have h := ok_f h (fun z => c32 ((lg_cmp_eq _ _).mpr z))
        refine lv_iconst (v := (0 : Int32)) hx hb d_law_211 (by decide) ?_
        exact absurd (Option.some.inj h) (by decide)
    have h := ok_f h c27
    by_cases c33 : ((xs x3.toNatClampNeg) &&& (7 : Int32)) = (4 : Int32)
    · have h := ok_t h c33
      refine lv_tableIn (off := 181) (tgt := 213) hx hb d_law_32 (by rw [c33]; decide) (by rw [c33]; decide) (by rw [c33]; rfl) (by decide) ?_
      refine lv_aload_n hx hb d_law_213 rfl (lv_at hl 1 rfl) ?_
      refine lv_aload_n hx hb d_law_214 rfl (lv_at hl 0 rfl) ?_
      refine lv_iload_n hx hb d_law_215 rfl (lv_at hl 3 rfl) ?_
      refine lv_iconst (v := (1 : Int32)) hx hb d_law_216 (by decide) ?_
      refine lv_iadd hx hb d_law_217 ?_
      obtain ⟨b34, h⟩ := ok_g h
      refine va_sld hx hb hX hbl hbA hw.2.2 b34 d_law_218 ?_
      refine lv_if_eq (tgt := 226) hx hb d_law_219 (by decide) (fun c35 => ?_) (fun c35 => ?_)
      · have h := ok_t h c35
        refine lv_iconst (v := (0 : Int32)) hx hb d_law_226 (by decide) ?_
        exact w_law_227 C0 hX hbl q ih18 hi18 x3 (0 : Int32) h H locs ls hw (lv_sub hl [0, 1, 2, 3] rfl)
      · have h := ok_f h c35
        refine lv_iconst (v := (1 : Int32)) hx hb d_law_222 (by decide) ?_
        refine lv_goto (tgt := 227) hx hb d_law_223 (by decide) ?_
        exact w_law_227 C0 hX hbl q ih18 hi18 x3 (1 : Int32) h H locs ls hw (lv_sub hl [0, 1, 2, 3] rfl)
    have h := ok_f h c33
    by_cases c40 : ((xs x3.toNatClampNeg) &&& (7 : Int32)) = (5 : Int32)
    · have h := ok_t h c40
      refine lv_tableIn (off := 218) (tgt := 250) hx hb d_law_32 (by rw [c40]; decide) (by rw [c40]; decide) (by rw [c40]; rfl) (by decide) ?_
      refine lv_aload_n hx hb d_law_250 rfl (lv_at hl 1 rfl) ?_
      obtain ⟨r41, er41, h⟩ := ok_b h
      have hw : z_wd D (z_K ad ca q.1 ++ z_M bd cb q.2) (fun q : Nat => s.heap.size ≤ q) s H locs := hw
      refine z_Lvi (rest := []) C0 (z_2tl hK) hw (c_Co_step q.1 r41 er41) mw_Co_step ml_La_36 0 rfl ⟨Nat.le_of_ble_eq_true rfl, Nat.le_of_ble_eq_true rfl⟩ ⟨Nat.le_of_ble_eq_true rfl, Nat.le_of_ble_eq_true rfl⟩ rfl hl.1 rfl (Nat.le_of_ble_eq_true rfl) d_law_251 (fun H locs hw => ?_)
      have hw : z_wd D (z_2 ad ca bd cb (r41.2, q.2)) (fun q : Nat => s.heap.size ≤ q) s H locs := hw
      refine lv_pop hx hb d_law_254 rfl ?_
      refine lv_aload_n hx hb d_law_255 rfl (lv_at hl 2 rfl) ?_
      obtain ⟨r42, er42, h⟩ := ok_b h
      have hw : z_wd D (z_K ad ca r41.2 ++ z_M bd cb q.2) (fun q : Nat => s.heap.size ≤ q) s H locs := hw
      refine z_Rvi (rest := []) C0 (z_2tr hK) hw (c_Mo_step q.2 r42 er42) mw_Mo_step ml_La_40 0 rfl ⟨Nat.le_of_ble_eq_true rfl, Nat.le_of_ble_eq_true rfl⟩ ⟨Nat.le_of_ble_eq_true rfl, Nat.le_of_ble_eq_true rfl⟩ rfl hl.1 rfl (Nat.le_of_ble_eq_true rfl) d_law_256 (fun H locs hw => ?_)
      have hw : z_wd D (z_2 ad ca bd cb (r41.2, r42.2)) (fun q : Nat => s.heap.size ≤ q) s H locs := hw
      refine lv_pop hx hb d_law_259 rfl ?_
      refine lv_goto (tgt := 329) hx hb d_law_260 (by decide) ?_
      exact w_law_329 C0 hX hbl (r41.2, r42.2) ih18 hi18 x3 h H locs ls hw (lv_sub hl [0, 1, 2, 3] rfl)
    have h := ok_f h c40
    by_cases c43 : ((xs x3.toNatClampNeg) &&& (7 : Int32)) = (6 : Int32)
    · have h := ok_t h c43
      refine lv_tableIn (off := 231) (tgt := 263) hx hb d_law_32 (by rw [c43]; decide) (by rw [c43]; decide) (by rw [c43]; rfl) (by decide) ?_
      refine lv_aload_n hx hb d_law_263 rfl (lv_at hl 1 rfl) ?_
      refine lv_aload_n hx hb d_law_264 rfl (lv_at hl 0 rfl) ?_
      refine lv_iload_n hx hb d_law_265 rfl (lv_at hl 3 rfl) ?_
      refine lv_iconst (v := (1 : Int32)) hx hb d_law_266 (by decide) ?_
      refine lv_iadd hx hb d_law_267 ?_
      obtain ⟨b44, h⟩ := ok_g h
      refine va_sld hx hb hX hbl hbA hw.2.2 b44 d_law_268 ?_
      obtain ⟨r45, er45, h⟩ := ok_b h
      have hw : z_wd D (z_K ad ca q.1 ++ z_M bd cb q.2) (fun q : Nat => s.heap.size ≤ q) s H locs := hw
      refine z_Lvi (rest := []) C0 (z_2tl hK) hw (c_Co_run (xs (x3 + (1 : Int32)).toNatClampNeg) q.1 r45 er45) mw_Co_run ml_La_41 0 rfl ⟨Nat.le_of_ble_eq_true rfl, Nat.le_of_ble_eq_true rfl⟩ ⟨Nat.le_of_ble_eq_true rfl, Nat.le_of_ble_eq_true rfl⟩ rfl hl.1 rfl (Nat.le_of_ble_eq_true rfl) d_law_269 (fun H locs hw => ?_)
      have hw : z_wd D (z_2 ad ca bd cb (r45.2, q.2)) (fun q : Nat => s.heap.size ≤ q) s H locs := hw
      refine lv_pop hx hb d_law_272 rfl ?_
      refine lv_aload_n hx hb d_law_273 rfl (lv_at hl 2 rfl) ?_
      refine lv_aload_n hx hb d_law_274 rfl (lv_at hl 0 rfl) ?_
      refine lv_iload_n hx hb d_law_275 rfl (lv_at hl 3 rfl) ?_
      refine lv_iconst (v := (1 : Int32)) hx hb d_law_276 (by decide) ?_
      refine lv_iadd hx hb d_law_277 ?_
      obtain ⟨b46, h⟩ := ok_g h
      refine va_sld hx hb hX hbl hbA hw.2.2 b46 d_law_278 ?_
      obtain ⟨r47, er47, h⟩ := ok_b h
      have hw : z_wd D (z_K ad ca r45.2 ++ z_M bd cb q.2) (fun q : Nat => s.heap.size ≤ q) s H locs := hw
      refine z_Rvi (rest := []) C0 (z_2tr hK) hw (c_Mo_run (xs (x3 + (1 : Int32)).toNatClampNeg) q.2 r47 er47) mw_Mo_run ml_La_45 0 rfl ⟨Nat.le_of_ble_eq_true rfl, Nat.le_of_ble_eq_true rfl⟩ ⟨Nat.le_of_ble_eq_true rfl, Nat.le_of_ble_eq_true rfl⟩ rfl hl.1 rfl (Nat.le_of_ble_eq_true rfl) d_law_279 (fun H locs hw => ?_)
      have hw : z_wd D (z_2 ad ca bd cb (r45.2, r47.2)) (fun q : Nat => s.heap.size ≤ q) s H locs := hw
      refine lv_pop hx hb d_law_282 rfl ?_
      refine lv_goto (tgt := 329) hx hb d_law_283 (by decide) ?_
      exact w_law_329 C0 hX hbl (r45.2, r47.2) ih18 hi18 x3 h H locs ls hw (lv_sub hl [0, 1, 2, 3] rfl)
    have h := ok_f h c43
    by_cases c48 : ((xs x3.toNatClampNeg) &&& (7 : Int32)) = (7 : Int32)
    · have h := ok_t h c48
      refine lv_tableIn (off := 254) (tgt := 286) hx hb d_law_32 (by rw [c48]; decide) (by rw [c48]; decide) (by rw [c48]; rfl) (by decide) ?_
      refine lv_aload_n hx hb d_law_286 rfl (lv_at hl 1 rfl) ?_
      refine lv_aload_n hx hb d_law_287 rfl (lv_at hl 0 rfl) ?_
      refine lv_iload_n hx hb d_law_288 rfl (lv_at hl 3 rfl) ?_
      refine lv_iconst (v := (1 : Int32)) hx hb d_law_289 (by decide) ?_
      refine lv_iadd hx hb d_law_290 ?_
      obtain ⟨b49, h⟩ := ok_g h
      refine va_sld hx hb hX hbl hbA hw.2.2 b49 d_law_291 ?_
      refine lv_aload_n hx hb d_law_292 rfl (lv_at hl 0 rfl) ?_
      refine lv_iload_n hx hb d_law_293 rfl (lv_at hl 3 rfl) ?_
      refine lv_iconst (v := (2 : Int32)) hx hb d_law_294 (by decide) ?_
      refine lv_iadd hx hb d_law_295 ?_
      obtain ⟨b50, h⟩ := ok_g h
      refine va_sld hx hb hX hbl hbA hw.2.2 b50 d_law_296 ?_
      refine lv_aload_n hx hb d_law_297 rfl (lv_at hl 0 rfl) ?_
      refine lv_iload_n hx hb d_law_298 rfl (lv_at hl 3 rfl) ?_
      refine lv_iconst (v := (3 : Int32)) hx hb d_law_299 (by decide) ?_
      refine lv_iadd hx hb d_law_300 ?_
      obtain ⟨b51, h⟩ := ok_g h
      refine va_sld hx hb hX hbl hbA hw.2.2 b51 d_law_301 ?_
      obtain ⟨r52, er52, h⟩ := ok_b h
      have hw : z_wd D (z_K ad ca q.1 ++ z_M bd cb q.2) (fun q : Nat => s.heap.size ≤ q) s H locs := hw
      refine z_Lvl (rest := []) C0 (z_2tl hK) hw (c_Co_look (xs (x3 + (1 : Int32)).toNatClampNeg) (xs (x3 + (2 : Int32)).toNatClampNeg) (xs (x3 + (3 : Int32)).toNatClampNeg) q.1 r52 er52) mw_Co_look ml_La_46 0 rfl ⟨Nat.le_of_ble_eq_true rfl, Nat.le_of_ble_eq_true rfl⟩ ⟨Nat.le_of_ble_eq_true rfl, Nat.le_of_ble_eq_true rfl⟩ rfl hl.1 rfl (Nat.le_of_ble_eq_true rfl) d_law_302 (fun H locs hw => ?_)
      have hw : z_wd D (z_2 ad ca bd cb q) (fun q : Nat => s.heap.size ≤ q) s H locs := hw
      refine lv_pop2_2 hx hb d_law_305 rfl ?_
      refine lv_aload_n hx hb d_law_306 rfl (lv_at hl 2 rfl) ?_
      refine lv_aload_n hx hb d_law_307 rfl (lv_at hl 0 rfl) ?_
      refine lv_iload_n hx hb d_law_308 rfl (lv_at hl 3 rfl) ?_
      refine lv_iconst (v := (1 : Int32)) hx hb d_law_309 (by decide) ?_
      refine lv_iadd hx hb d_law_310 ?_
      obtain ⟨b53, h⟩ := ok_g h
      refine va_sld hx hb hX hbl hbA hw.2.2 b53 d_law_311 ?_
      refine lv_aload_n hx hb d_law_312 rfl (lv_at hl 0 rfl) ?_
      refine lv_iload_n hx hb d_law_313 rfl (lv_at hl 3 rfl) ?_
      refine lv_iconst (v := (2 : Int32)) hx hb d_law_314 (by decide) ?_
      refine lv_iadd hx hb d_law_315 ?_
      obtain ⟨b54, h⟩ := ok_g h
      refine va_sld hx hb hX hbl hbA hw.2.2 b54 d_law_316 ?_
      refine lv_aload_n hx hb d_law_317 rfl (lv_at hl 0 rfl) ?_
      refine lv_iload_n hx hb d_law_318 rfl (lv_at hl 3 rfl) ?_
      refine lv_iconst (v := (3 : Int32)) hx hb d_law_319 (by decide) ?_
      refine lv_iadd hx hb d_law_320 ?_
      obtain ⟨b55, h⟩ := ok_g h
      refine va_sld hx hb hX hbl hbA hw.2.2 b55 d_law_321 ?_
      obtain ⟨r56, er56, h⟩ := ok_b h
      have hw : z_wd D (z_K ad ca q.1 ++ z_M bd cb q.2) (fun q : Nat => s.heap.size ≤ q) s H locs := hw
      refine z_Rvl (rest := []) C0 (z_2tr hK) hw (c_Mo_look (xs (x3 + (1 : Int32)).toNatClampNeg) (xs (x3 + (2 : Int32)).toNatClampNeg) (xs (x3 + (3 : Int32)).toNatClampNeg) q.2 r56 er56) mw_Mo_look ml_La_50 0 rfl ⟨Nat.le_of_ble_eq_true rfl, Nat.le_of_ble_eq_true rfl⟩ ⟨Nat.le_of_ble_eq_true rfl, Nat.le_of_ble_eq_true rfl⟩ rfl hl.1 rfl (Nat.le_of_ble_eq_true rfl) d_law_322 (fun H locs hw => ?_)
      have hw : z_wd D (z_2 ad ca bd cb (q.1, r56.2)) (fun q : Nat => s.heap.size ≤ q) s H locs := hw
      refine lv_pop2_2 hx hb d_law_325 rfl ?_
      refine lv_goto (tgt := 329) hx hb d_law_326 (by decide) ?_
      exact w_law_329 C0 hX hbl (q.1, r56.2) ih18 hi18 x3 h H locs ls hw (lv_sub hl [0, 1, 2, 3] rfl)
    have h := ok_f h c48
    refine lv_tableOut (tgt := 329) hx hb d_law_32 (by have zc3 := lv_neT c3 (a := 0) rfl; have zc13 := lv_neT c13 (a := 1) rfl; have zc18 := lv_neT c18 (a := 2) rfl; have zc27 := lv_neT c27 (a := 3) rfl; have zc33 := lv_neT c33 (a := 4) rfl; have zc40 := lv_neT c40 (a := 5) rfl; have zc43 := lv_neT c43 (a := 6) rfl; have zc48 := lv_neT c48 (a := 7) rfl; omega) (by decide) ?_
    exact w_law_329 C0 hX hbl q ih18 hi18 x3 h H locs ls hw (lv_sub hl [0, 1, 2, 3] rfl)
theorem w_law_18 {p : Program} {l : Launch} {e : Env} {s : State} {m : MethodId} {below : List Frame} {meth : Method} {c : Code} {D : va_G} {ad : Nat → Nat} {ca : Nat → ClassId} {bd : Nat → Nat} {cb : Nat → ClassId} {b L : Nat} {xs : Nat → Int32} (C0 : z_cx z_RLa code 4 ret D (z_2t ca cb) (fun q : Nat => s.heap.size ≤ q) p s m #[Value.ref b] meth c) (hX : va_X b L xs s s.heap) (hbl : b < s.heap.size) (q : (z_Sg × z_Sg)) (x3 : Int32) (h : k_law_18 xs L x3 q = some 1) : ∀ (H : Heap) (locs : List Loc) (ls : Array Slot), z_wd D (z_2 ad ca bd cb q) (fun q : Nat => s.heap.size ≤ q) s H locs → lv_has ls 4 [(0, .ref b), (1, .ref (ad 0)), (2, .ref (bd 0)), (3, .int x3)] → W p l e room_1 s m #[Value.ref b] below meth c H locs 30 37115 (lw_Z below #[Value.ref b] s) (F0 m 18 ls []) := by
  have key : ∀ (n : Nat) (a : Int32 × (z_Sg × z_Sg)), z_lo (fun ih18 a => kb_law_18 xs L ih18 a.1 a.2) n a = some 1 → ∀ (H : Heap) (locs : List Loc) (ls : Array Slot), z_wd D (z_2 ad ca bd cb a.2) (fun q : Nat => s.heap.size ≤ q) s H locs → lv_has ls 4 [(0, .ref b), (1, .ref (ad 0)), (2, .ref (bd 0)), (3, .int a.1)] → W p l e room_1 s m #[Value.ref b] below meth c H locs 30 37115 (lw_Z below #[Value.ref b] s) (F0 m 18 ls []) := by
    intro n
    induction n with
    | zero => intro a h; cases h
    | succ n ih => exact fun a h => wb_law_18 C0 hX hbl a.2 (z_lo (fun ih18 a => kb_law_18 xs L ih18 a.1 a.2) n) ih a.1 h
  exact key 2000 (x3, q) h
