def k_law_328 (xs : Nat → Int32) (L : Nat) (ih18 : Int32 × (z_Sg × z_Sg) → Option Int32) (x3 : Int32) (q : (z_Sg × z_Sg)) : Option Int32 :=
  z_nm (x3 + (4 : Int32)) (fun n12 => ih18 (n12, q))
def k_law_243 (xs : Nat → Int32) (L : Nat) (ih18 : Int32 × (z_Sg × z_Sg) → Option Int32) (x3 : Int32) (t1 : Int32) (q : (z_Sg × z_Sg)) : Option Int32 :=
  (f_Mo_level t1 q.2).bind (fun r38 => k_law_328 xs L ih18 x3 (q.1, r38))
def k_law_226 (xs : Nat → Int32) (L : Nat) (ih18 : Int32 × (z_Sg × z_Sg) → Option Int32) (x3 : Int32) (t1 : Int32) (q : (z_Sg × z_Sg)) : Option Int32 :=
  (f_Co_level t1 q.1).bind (fun r35 => if z_bad (x3 + (1 : Int32)) L then none else (if (xs (x3 + (1 : Int32)).toNatClampNeg) = 0 then (k_law_243 xs L ih18 x3 (0 : Int32) (r35, q.2)) else (k_law_243 xs L ih18 x3 (1 : Int32) (r35, q.2))))
def kb_law_18 (xs : Nat → Int32) (L : Nat) (ih18 : Int32 × (z_Sg × z_Sg) → Option Int32) (x3 : Int32) (q : (z_Sg × z_Sg)) : Option Int32 :=
  if ((Int32.ofNat L) - (4 : Int32)) < x3 then (some (1 : Int32)) else (if z_bad x3 L then none else (if ((xs x3.toNatClampNeg) &&& (7 : Int32)) = (0 : Int32) then (if z_bad (x3 + (1 : Int32)) L then none else (if z_bad (x3 + (2 : Int32)) L then none else (if z_bad (x3 + (3 : Int32)) L then none else ((f_Co_store (xs (x3 + (1 : Int32)).toNatClampNeg) (xs (x3 + (2 : Int32)).toNatClampNeg) (xs (x3 + (3 : Int32)).toNatClampNeg) q.1).bind (fun r7 => if z_bad (x3 + (1 : Int32)) L then none else (if z_bad (x3 + (2 : Int32)) L then none else (if z_bad (x3 + (3 : Int32)) L then none else ((f_Mo_store (xs (x3 + (1 : Int32)).toNatClampNeg) (xs (x3 + (2 : Int32)).toNatClampNeg) (xs (x3 + (3 : Int32)).toNatClampNeg) q.2).bind (fun r11 => k_law_328 xs L ih18 x3 (r7.2, r11.2)))))))))) else (if ((xs x3.toNatClampNeg) &&& (7 : Int32)) = (1 : Int32) then (if z_bad (x3 + (1 : Int32)) L then none else ((f_Co_stored (xs (x3 + (1 : Int32)).toNatClampNeg) q.1).bind (fun r15 => if z_bad (x3 + (1 : Int32)) L then none else ((f_Mo_stored (xs (x3 + (1 : Int32)).toNatClampNeg) q.2).bind (fun r17 => k_law_328 xs L ih18 x3 q))))) else (if ((xs x3.toNatClampNeg) &&& (7 : Int32)) = (2 : Int32) then (if z_bad (x3 + (1 : Int32)) L then none else (if z_bad (x3 + (2 : Int32)) L then none else (if z_bad (x3 + (3 : Int32)) L then none else ((f_Co_set (xs (x3 + (1 : Int32)).toNatClampNeg) (xs (x3 + (2 : Int32)).toNatClampNeg) (xs (x3 + (3 : Int32)).toNatClampNeg) q.1).bind (fun r22 => if z_bad (x3 + (1 : Int32)) L then none else (if z_bad (x3 + (2 : Int32)) L then none else (if z_bad (x3 + (3 : Int32)) L then none else ((f_Mo_set (xs (x3 + (1 : Int32)).toNatClampNeg) (xs (x3 + (2 : Int32)).toNatClampNeg) (xs (x3 + (3 : Int32)).toNatClampNeg) q.2).bind (fun r26 => k_law_328 xs L ih18 x3 (r22.2, r26.2)))))))))) else (if ((xs x3.toNatClampNeg) &&& (7 : Int32)) = (3 : Int32) then (if z_bad (x3 + (1 : Int32)) L then none else ((f_Co_get (xs (x3 + (1 : Int32)).toNatClampNeg) q.1).bind (fun r29 => if z_bad (x3 + (1 : Int32)) L then none else ((f_Mo_get (xs (x3 + (1 : Int32)).toNatClampNeg) q.2).bind (fun r31 => k_law_328 xs L ih18 x3 q))))) else (if ((xs x3.toNatClampNeg) &&& (7 : Int32)) = (4 : Int32) then (if z_bad (x3 + (1 : Int32)) L then none else (if (xs (x3 + (1 : Int32)).toNatClampNeg) = 0 then (k_law_226 xs L ih18 x3 (0 : Int32) q) else (k_law_226 xs L ih18 x3 (1 : Int32) q))) else (if ((xs x3.toNatClampNeg) &&& (7 : Int32)) = (5 : Int32) then ((f_Co_step q.1).bind (fun r40 => (f_Mo_step q.2).bind (fun r41 => k_law_328 xs L ih18 x3 (r40.2, r41.2)))) else (if ((xs x3.toNatClampNeg) &&& (7 : Int32)) = (6 : Int32) then (if z_bad (x3 + (1 : Int32)) L then none else ((f_Co_run (xs (x3 + (1 : Int32)).toNatClampNeg) q.1).bind (fun r44 => if z_bad (x3 + (1 : Int32)) L then none else ((f_Mo_run (xs (x3 + (1 : Int32)).toNatClampNeg) q.2).bind (fun r46 => if r44.1 = r46.1 then (k_law_328 xs L ih18 x3 (r44.2, r46.2)) else (some (0 : Int32))))))) else (if ((xs x3.toNatClampNeg) &&& (7 : Int32)) = (7 : Int32) then (if z_bad (x3 + (1 : Int32)) L then none else (if z_bad (x3 + (2 : Int32)) L then none else (if z_bad (x3 + (3 : Int32)) L then none else ((f_Co_look (xs (x3 + (1 : Int32)).toNatClampNeg) (xs (x3 + (2 : Int32)).toNatClampNeg) (xs (x3 + (3 : Int32)).toNatClampNeg) q.1).bind (fun r52 => if z_bad (x3 + (1 : Int32)) L then none else (if z_bad (x3 + (2 : Int32)) L then none else (if z_bad (x3 + (3 : Int32)) L then none else ((f_Mo_look (xs (x3 + (1 : Int32)).toNatClampNeg) (xs (x3 + (2 : Int32)).toNatClampNeg) (xs (x3 + (3 : Int32)).toNatClampNeg) q.2).bind (fun r56 => k_law_328 xs L ih18 x3 (q.1, r56.2)))))))))) else (k_law_328 xs L ih18 x3 q))))))))))
def k_law_18 (xs : Nat → Int32) (L : Nat) (x3 : Int32) (q : (z_Sg × z_Sg)) : Option Int32 := z_lo (fun ih18 a => kb_law_18 xs L ih18 a.1 a.2) 2000 (x3, q)
set_option maxHeartbeats 4000000 in
set_option maxRecDepth 100000 in
theorem w_law_328 {p : Program} {l : Launch} {e : Env} {s : State} {m : MethodId} {below : List Frame} {meth : Method} {c : Code} {D : va_G} {ad : Nat → Nat} {ca : Nat → ClassId} {bd : Nat → Nat} {cb : Nat → ClassId} {b L : Nat} {xs : Nat → Int32} (C0 : z_cx z_RLa code 4 ret D (z_2t ca cb) (fun q : Nat => s.heap.size ≤ q) p s m #[Value.ref b] meth c) (hX : va_X b L xs s s.heap) (hbl : b < s.heap.size) (q : (z_Sg × z_Sg)) (ih18 : Int32 × (z_Sg × z_Sg) → Option Int32) (hi18 : ∀ a : Int32 × (z_Sg × z_Sg), ih18 a = some 1 → ∀ (H : Heap) (locs : List Loc) (ls : Array Slot), z_wd D (z_2 ad ca bd cb a.2) (fun q : Nat => s.heap.size ≤ q) s H locs → lv_has ls 4 [(0, .ref b), (1, .ref (ad 0)), (2, .ref (bd 0)), (3, .int a.1)] → W p l e room_1 s m #[Value.ref b] below meth c H locs 30 37115 (lw_Z below #[Value.ref b] s) (F0 m 18 ls [])) (x3 : Int32) (h : k_law_328 xs L ih18 x3 q = some 1) : ∀ (H : Heap) (locs : List Loc) (ls : Array Slot), z_wd D (z_2 ad ca bd cb q) (fun q : Nat => s.heap.size ≤ q) s H locs → lv_has ls 4 [(0, .ref b), (1, .ref (ad 0)), (2, .ref (bd 0)), (3, .int x3)] → W p l e room_1 s m #[Value.ref b] below meth c H locs 30 37115 (lw_Z below #[Value.ref b] s) (F0 m 328 ls []) := by
  obtain ⟨hx, hb, hr, hlk, hml, hown, hts, hK, hA⟩ := id C0
  have hbA : ¬ (fun q : Nat => s.heap.size ≤ q) b := Nat.not_le.mpr hbl
  intro H locs ls hw hl
  obtain ⟨n12, en12, h⟩ := ok_n h
  refine lv_iinc (v := n12) (lv' := [(3, .int n12), (0, .ref b), (1, .ref (ad 0)), (2, .ref (bd 0))]) hx hb d_law_328 hl (k := 3) rfl (by rw [en12]; rfl) (by decide) rfl (fun ls hl => ?_)
  refine lv_goto (tgt := 18) hx hb d_law_331 (by decide) ?_
  exact hi18 (n12, q) h H locs ls hw (lv_sub hl [1, 2, 3, 0] rfl)
set_option maxHeartbeats 4000000 in
set_option maxRecDepth 100000 in
theorem w_law_243 {p : Program} {l : Launch} {e : Env} {s : State} {m : MethodId} {below : List Frame} {meth : Method} {c : Code} {D : va_G} {ad : Nat → Nat} {ca : Nat → ClassId} {bd : Nat → Nat} {cb : Nat → ClassId} {b L : Nat} {xs : Nat → Int32} (C0 : z_cx z_RLa code 4 ret D (z_2t ca cb) (fun q : Nat => s.heap.size ≤ q) p s m #[Value.ref b] meth c) (hX : va_X b L xs s s.heap) (hbl : b < s.heap.size) (q : (z_Sg × z_Sg)) (ih18 : Int32 × (z_Sg × z_Sg) → Option Int32) (hi18 : ∀ a : Int32 × (z_Sg × z_Sg), ih18 a = some 1 → ∀ (H : Heap) (locs : List Loc) (ls : Array Slot), z_wd D (z_2 ad ca bd cb a.2) (fun q : Nat => s.heap.size ≤ q) s H locs → lv_has ls 4 [(0, .ref b), (1, .ref (ad 0)), (2, .ref (bd 0)), (3, .int a.1)] → W p l e room_1 s m #[Value.ref b] below meth c H locs 30 37115 (lw_Z below #[Value.ref b] s) (F0 m 18 ls [])) (x3 : Int32) (t1 : Int32) (h : k_law_243 xs L ih18 x3 t1 q = some 1) : ∀ (H : Heap) (locs : List Loc) (ls : Array Slot), z_wd D (z_2 ad ca bd cb q) (fun q : Nat => s.heap.size ≤ q) s H locs → lv_has ls 4 [(0, .ref b), (1, .ref (ad 0)), (2, .ref (bd 0)), (3, .int x3)] → W p l e room_1 s m #[Value.ref b] below meth c H locs 30 37115 (lw_Z below #[Value.ref b] s) (F0 m 243 ls [.int t1, .ref (bd 0)]) := by
  obtain ⟨hx, hb, hr, hlk, hml, hown, hts, hK, hA⟩ := id C0
  have hbA : ¬ (fun q : Nat => s.heap.size ≤ q) b := Nat.not_le.mpr hbl
  intro H locs ls hw hl
  obtain ⟨r38, er38, h⟩ := ok_b h
  have hw : z_wd D (z_K ad ca q.1 ++ z_M bd cb q.2) (fun q : Nat => s.heap.size ≤ q) s H locs := hw
  refine z_Rvv (rest := []) C0 (z_2tr hK) hw (c_Mo_level t1 q.2 r38 er38) mw_Mo_level ml_La_35 0 rfl ⟨Nat.le_of_ble_eq_true rfl, Nat.le_of_ble_eq_true rfl⟩ ⟨Nat.le_of_ble_eq_true rfl, Nat.le_of_ble_eq_true rfl⟩ rfl hl.1 rfl (Nat.le_of_ble_eq_true rfl) d_law_243 (fun H locs hw => ?_)
  have hw : z_wd D (z_2 ad ca bd cb (q.1, r38)) (fun q : Nat => s.heap.size ≤ q) s H locs := hw
  refine lv_goto (tgt := 328) hx hb d_law_246 (by decide) ?_
  exact w_law_328 C0 hX hbl (q.1, r38) ih18 hi18 x3 h H locs ls hw (lv_sub hl [0, 1, 2, 3] rfl)
set_option maxHeartbeats 4000000 in
set_option maxRecDepth 100000 in
theorem w_law_226 {p : Program} {l : Launch} {e : Env} {s : State} {m : MethodId} {below : List Frame} {meth : Method} {c : Code} {D : va_G} {ad : Nat → Nat} {ca : Nat → ClassId} {bd : Nat → Nat} {cb : Nat → ClassId} {b L : Nat} {xs : Nat → Int32} (C0 : z_cx z_RLa code 4 ret D (z_2t ca cb) (fun q : Nat => s.heap.size ≤ q) p s m #[Value.ref b] meth c) (hX : va_X b L xs s s.heap) (hbl : b < s.heap.size) (q : (z_Sg × z_Sg)) (ih18 : Int32 × (z_Sg × z_Sg) → Option Int32) (hi18 : ∀ a : Int32 × (z_Sg × z_Sg), ih18 a = some 1 → ∀ (H : Heap) (locs : List Loc) (ls : Array Slot), z_wd D (z_2 ad ca bd cb a.2) (fun q : Nat => s.heap.size ≤ q) s H locs → lv_has ls 4 [(0, .ref b), (1, .ref (ad 0)), (2, .ref (bd 0)), (3, .int a.1)] → W p l e room_1 s m #[Value.ref b] below meth c H locs 30 37115 (lw_Z below #[Value.ref b] s) (F0 m 18 ls [])) (x3 : Int32) (t1 : Int32) (h : k_law_226 xs L ih18 x3 t1 q = some 1) : ∀ (H : Heap) (locs : List Loc) (ls : Array Slot), z_wd D (z_2 ad ca bd cb q) (fun q : Nat => s.heap.size ≤ q) s H locs → lv_has ls 4 [(0, .ref b), (1, .ref (ad 0)), (2, .ref (bd 0)), (3, .int x3)] → W p l e room_1 s m #[Value.ref b] below meth c H locs 30 37115 (lw_Z below #[Value.ref b] s) (F0 m 226 ls [.int t1, .ref (ad 0)]) := by
  obtain ⟨hx, hb, hr, hlk, hml, hown, hts, hK, hA⟩ := id C0
  have hbA : ¬ (fun q : Nat => s.heap.size ≤ q) b := Nat.not_le.mpr hbl
  intro H locs ls hw hl
  obtain ⟨r35, er35, h⟩ := ok_b h
  have hw : z_wd D (z_K ad ca q.1 ++ z_M bd cb q.2) (fun q : Nat => s.heap.size ≤ q) s H locs := hw
  refine z_Lvv (rest := []) C0 (z_2tl hK) hw (c_Co_level t1 q.1 r35 er35) mw_Co_level ml_La_31 0 rfl ⟨Nat.le_of_ble_eq_true rfl, Nat.le_of_ble_eq_true rfl⟩ ⟨Nat.le_of_ble_eq_true rfl, Nat.le_of_ble_eq_true rfl⟩ rfl hl.1 rfl (Nat.le_of_ble_eq_true rfl) d_law_226 (fun H locs hw => ?_)
  have hw : z_wd D (z_2 ad ca bd cb (r35, q.2)) (fun q : Nat => s.heap.size ≤ q) s H locs := hw
  refine lv_aload_n hx hb d_law_229 rfl (lv_at hl 2 rfl) ?_
  refine lv_aload_n hx hb d_law_230 rfl (lv_at hl 0 rfl) ?_
  refine lv_iload_n hx hb d_law_231 rfl (lv_at hl 3 rfl) ?_
  refine lv_iconst (v := (1 : Int32)) hx hb d_law_232 (by decide) ?_
  refine lv_iadd hx hb d_law_233 ?_
  obtain ⟨b36, h⟩ := ok_g h
  refine va_sld hx hb hX hbl hbA hw.2.2 b36 d_law_234 ?_
  refine lv_if_eq (tgt := 242) hx hb d_law_235 (by decide) (fun c37 => ?_) (fun c37 => ?_)
  · have h := ok_t h c37
    refine lv_iconst (v := (0 : Int32)) hx hb d_law_242 (by decide) ?_
    exact w_law_243 C0 hX hbl (r35, q.2) ih18 hi18 x3 (0 : Int32) h H locs ls hw (lv_sub hl [0, 1, 2, 3] rfl)
  · have h := ok_f h c37
    refine lv_iconst (v := (1 : Int32)) hx hb d_law_238 (by decide) ?_
    refine lv_goto (tgt := 243) hx hb d_law_239 (by decide) ?_
    exact w_law_243 C0 hX hbl (r35, q.2) ih18 hi18 x3 (1 : Int32) h H locs ls hw (lv_sub hl [0, 1, 2, 3] rfl)
set_option maxHeartbeats 4000000 in
set_option maxRecDepth 100000 in
theorem wb_law_18 {p : Program} {l : Launch} {e : Env} {s : State} {m : MethodId} {below : List Frame} {meth : Method} {c : Code} {D : va_G} {ad : Nat → Nat} {ca : Nat → ClassId} {bd : Nat → Nat} {cb : Nat → ClassId} {b L : Nat} {xs : Nat → Int32} (C0 : z_cx z_RLa code 4 ret D (z_2t ca cb) (fun q : Nat => s.heap.size ≤ q) p s m #[Value.ref b] meth c) (hX : va_X b L xs s s.heap) (hbl : b < s.heap.size) (q : (z_Sg × z_Sg)) (ih18 : Int32 × (z_Sg × z_Sg) → Option Int32) (hi18 : ∀ a : Int32 × (z_Sg × z_Sg), ih18 a = some 1 → ∀ (H : Heap) (locs : List Loc) (ls : Array Slot), z_wd D (z_2 ad ca bd cb a.2) (fun q : Nat => s.heap.size ≤ q) s H locs → lv_has ls 4 [(0, .ref b), (1, .ref (ad 0)), (2, .ref (bd 0)), (3, .int a.1)] → W p l e room_1 s m #[Value.ref b] below meth c H locs 30 37115 (lw_Z below #[Value.ref b] s) (F0 m 18 ls [])) (x3 : Int32) (h : kb_law_18 xs L ih18 x3 q = some 1) : ∀ (H : Heap) (locs : List Loc) (ls : Array Slot), z_wd D (z_2 ad ca bd cb q) (fun q : Nat => s.heap.size ≤ q) s H locs → lv_has ls 4 [(0, .ref b), (1, .ref (ad 0)), (2, .ref (bd 0)), (3, .int x3)] → W p l e room_1 s m #[Value.ref b] below meth c H locs 30 37115 (lw_Z below #[Value.ref b] s) (F0 m 18 ls []) := by
  obtain ⟨hx, hb, hr, hlk, hml, hown, hts, hK, hA⟩ := id C0
  have hbA : ¬ (fun q : Nat => s.heap.size ≤ q) b := Nat.not_le.mpr hbl
  intro H locs ls hw hl
  refine lv_iload_n hx hb d_law_18 rfl (lv_at hl 3 rfl) ?_
  refine lv_aload_n hx hb d_law_19 rfl (lv_at hl 0 rfl) ?_
  refine va_slen hx hb hX hbl hbA hw.2.2 d_law_20 ?_
  refine lv_iconst (v := (4 : Int32)) hx hb d_law_21 (by decide) ?_
  refine lv_isub hx hb d_law_22 ?_
  refine lv_icmp_gt (tgt := 334) hx hb d_law_23 (by decide) (fun c1 => ?_) (fun c1 => ?_)
  · have h := ok_t h c1
    refine lv_iconst (v := (1 : Int32)) hx hb d_law_334 (by decide) ?_
    refine va_forget (fun q hq => hw.2.2.2.2 q hq) ?_
    refine W.widen (k := 600000) (n := 7302249) (Nat.le_of_ble_eq_true rfl) (Nat.le_of_ble_eq_true rfl) ?_
    exact lw_ret hx hb hr hlk d_law_335
  · have h := ok_f h c1
    refine lv_aload_n hx hb d_law_26 rfl (lv_at hl 0 rfl) ?_
    refine lv_iload_n hx hb d_law_27 rfl (lv_at hl 3 rfl) ?_
    obtain ⟨b2, h⟩ := ok_g h
    refine va_sld hx hb hX hbl hbA hw.2.2 b2 d_law_28 ?_
    refine lv_bipush (v := (7 : Int32)) hx hb d_law_29 (by decide) ?_
    refine lv_iand hx hb d_law_31 ?_
    by_cases c3 : ((xs x3.toNatClampNeg) &&& (7 : Int32)) = (0 : Int32)
    · have h := ok_t h c3
      refine lv_tableIn (off := 48) (tgt := 80) hx hb d_law_32 (by rw [c3]; decide) (by rw [c3]; decide) (by rw [c3]; rfl) (by decide) ?_
      refine lv_aload_n hx hb d_law_80 rfl (lv_at hl 1 rfl) ?_
      refine lv_aload_n hx hb d_law_81 rfl (lv_at hl 0 rfl) ?_
      refine lv_iload_n hx hb d_law_82 rfl (lv_at hl 3 rfl) ?_
      refine lv_iconst (v := (1 : Int32)) hx hb d_law_83 (by decide) ?_
      refine lv_iadd hx hb d_law_84 ?_
      obtain ⟨b4, h⟩ := ok_g h
      refine va_sld hx hb hX hbl hbA hw.2.2 b4 d_law_85 ?_
      refine lv_aload_n hx hb d_law_86 rfl (lv_at hl 0 rfl) ?_
      refine lv_iload_n hx hb d_law_87 rfl (lv_at hl 3 rfl) ?_
      refine lv_iconst (v := (2 : Int32)) hx hb d_law_88 (by decide) ?_
      refine lv_iadd hx hb d_law_89 ?_
      obtain ⟨b5, h⟩ := ok_g h
      refine va_sld hx hb hX hbl hbA hw.2.2 b5 d_law_90 ?_
      refine lv_aload_n hx hb d_law_91 rfl (lv_at hl 0 rfl) ?_
      refine lv_iload_n hx hb d_law_92 rfl (lv_at hl 3 rfl) ?_
      refine lv_iconst (v := (3 : Int32)) hx hb d_law_93 (by decide) ?_
      refine lv_iadd hx hb d_law_94 ?_
      obtain ⟨b6, h⟩ := ok_g h
      refine va_sld hx hb hX hbl hbA hw.2.2 b6 d_law_95 ?_
      obtain ⟨r7, er7, h⟩ := ok_b h
      have hw : z_wd D (z_K ad ca q.1 ++ z_M bd cb q.2) (fun q : Nat => s.heap.size ≤ q) s H locs := hw
      refine z_Lvi (rest := []) C0 (z_2tl hK) hw (c_Co_store (xs (x3 + (1 : Int32)).toNatClampNeg) (xs (x3 + (2 : Int32)).toNatClampNeg) (xs (x3 + (3 : Int32)).toNatClampNeg) q.1 r7 er7) mw_Co_store ml_La_13 0 rfl ⟨Nat.le_of_ble_eq_true rfl, Nat.le_of_ble_eq_true rfl⟩ ⟨Nat.le_of_ble_eq_true rfl, Nat.le_of_ble_eq_true rfl⟩ rfl hl.1 rfl (Nat.le_of_ble_eq_true rfl) d_law_96 (fun H locs hw => ?_)
      have hw : z_wd D (z_2 ad ca bd cb (r7.2, q.2)) (fun q : Nat => s.heap.size ≤ q) s H locs := hw
      refine lv_pop hx hb d_law_99 rfl ?_
      refine lv_aload_n hx hb d_law_100 rfl (lv_at hl 2 rfl) ?_
      refine lv_aload_n hx hb d_law_101 rfl (lv_at hl 0 rfl) ?_
      refine lv_iload_n hx hb d_law_102 rfl (lv_at hl 3 rfl) ?_
      refine lv_iconst (v := (1 : Int32)) hx hb d_law_103 (by decide) ?_
      refine lv_iadd hx hb d_law_104 ?_
      obtain ⟨b8, h⟩ := ok_g h
      refine va_sld hx hb hX hbl hbA hw.2.2 b8 d_law_105 ?_
      refine lv_aload_n hx hb d_law_106 rfl (lv_at hl 0 rfl) ?_
      refine lv_iload_n hx hb d_law_107 rfl (lv_at hl 3 rfl) ?_
      refine lv_iconst (v := (2 : Int32)) hx hb d_law_108 (by decide) ?_
      refine lv_iadd hx hb d_law_109 ?_
      obtain ⟨b9, h⟩ := ok_g h
      refine va_sld hx hb hX hbl hbA hw.2.2 b9 d_law_110 ?_
      refine lv_aload_n hx hb d_law_111 rfl (lv_at hl 0 rfl) ?_
      refine lv_iload_n hx hb d_law_112 rfl (lv_at hl 3 rfl) ?_
      refine lv_iconst (v := (3 : Int32)) hx hb d_law_113 (by decide) ?_
      refine lv_iadd hx hb d_law_114 ?_
      obtain ⟨b10, h⟩ := ok_g h
      refine va_sld hx hb hX hbl hbA hw.2.2 b10 d_law_115 ?_
      obtain ⟨r11, er11, h⟩ := ok_b h
      have hw : z_wd D (z_K ad ca r7.2 ++ z_M bd cb q.2) (fun q : Nat => s.heap.size ≤ q) s H locs := hw
      refine z_Rvi (rest := []) C0 (z_2tr hK) hw (c_Mo_store (xs (x3 + (1 : Int32)).toNatClampNeg) (xs (x3 + (2 : Int32)).toNatClampNeg) (xs (x3 + (3 : Int32)).toNatClampNeg) q.2 r11 er11) mw_Mo_store ml_La_17 0 rfl ⟨Nat.le_of_ble_eq_true rfl, Nat.le_of_ble_eq_true rfl⟩ ⟨Nat.le_of_ble_eq_true rfl, Nat.le_of_ble_eq_true rfl⟩ rfl hl.1 rfl (Nat.le_of_ble_eq_true rfl) d_law_116 (fun H locs hw => ?_)
      have hw : z_wd D (z_2 ad ca bd cb (r7.2, r11.2)) (fun q : Nat => s.heap.size ≤ q) s H locs := hw
      refine lv_pop hx hb d_law_119 rfl ?_
      refine lv_goto (tgt := 328) hx hb d_law_120 (by decide) ?_
      exact w_law_328 C0 hX hbl (r7.2, r11.2) ih18 hi18 x3 h H locs ls hw (lv_sub hl [0, 1, 2, 3] rfl)
    have h := ok_f h c3
    by_cases c13 : ((xs x3.toNatClampNeg) &&& (7 : Int32)) = (1 : Int32)
    · have h := ok_t h c13
      refine lv_tableIn (off := 91) (tgt := 123) hx hb d_law_32 (by rw [c13]; decide) (by rw [c13]; decide) (by rw [c13]; rfl) (by decide) ?_
      refine lv_aload_n hx hb d_law_123 rfl (lv_at hl 1 rfl) ?_
      refine lv_aload_n hx hb d_law_124 rfl (lv_at hl 0 rfl) ?_
      refine lv_iload_n hx hb d_law_125 rfl (lv_at hl 3 rfl) ?_
      refine lv_iconst (v := (1 : Int32)) hx hb d_law_126 (by decide) ?_
      refine lv_iadd hx hb d_law_127 ?_
      obtain ⟨b14, h⟩ := ok_g h
      refine va_sld hx hb hX hbl hbA hw.2.2 b14 d_law_128 ?_
      obtain ⟨r15, er15, h⟩ := ok_b h
      have hw : z_wd D (z_K ad ca q.1 ++ z_M bd cb q.2) (fun q : Nat => s.heap.size ≤ q) s H locs := hw
      refine z_Lvl (rest := []) C0 (z_2tl hK) hw (c_Co_stored (xs (x3 + (1 : Int32)).toNatClampNeg) q.1 r15 er15) mw_Co_stored ml_La_18 0 rfl ⟨Nat.le_of_ble_eq_true rfl, Nat.le_of_ble_eq_true rfl⟩ ⟨Nat.le_of_ble_eq_true rfl, Nat.le_of_ble_eq_true rfl⟩ rfl hl.1 rfl (Nat.le_of_ble_eq_true rfl) d_law_129 (fun H locs hw => ?_)
      have hw : z_wd D (z_2 ad ca bd cb q) (fun q : Nat => s.heap.size ≤ q) s H locs := hw
      refine lv_pop2_2 hx hb d_law_132 rfl ?_
      refine lv_aload_n hx hb d_law_133 rfl (lv_at hl 2 rfl) ?_
      refine lv_aload_n hx hb d_law_134 rfl (lv_at hl 0 rfl) ?_
      refine lv_iload_n hx hb d_law_135 rfl (lv_at hl 3 rfl) ?_
      refine lv_iconst (v := (1 : Int32)) hx hb d_law_136 (by decide) ?_
      refine lv_iadd hx hb d_law_137 ?_
      obtain ⟨b16, h⟩ := ok_g h
      refine va_sld hx hb hX hbl hbA hw.2.2 b16 d_law_138 ?_
      obtain ⟨r17, er17, h⟩ := ok_b h
      have hw : z_wd D (z_K ad ca q.1 ++ z_M bd cb q.2) (fun q : Nat => s.heap.size ≤ q) s H locs := hw
      refine z_Rvl (rest := []) C0 (z_2tr hK) hw (c_Mo_stored (xs (x3 + (1 : Int32)).toNatClampNeg) q.2 r17 er17) mw_Mo_stored ml_La_22 0 rfl ⟨Nat.le_of_ble_eq_true rfl, Nat.le_of_ble_eq_true rfl⟩ ⟨Nat.le_of_ble_eq_true rfl, Nat.le_of_ble_eq_true rfl⟩ rfl hl.1 rfl (Nat.le_of_ble_eq_true rfl) d_law_139 (fun H locs hw => ?_)
      have hw : z_wd D (z_2 ad ca bd cb q) (fun q : Nat => s.heap.size ≤ q) s H locs := hw
      refine lv_pop2_2 hx hb d_law_142 rfl ?_
      refine lv_goto (tgt := 328) hx hb d_law_143 (by decide) ?_
      exact w_law_328 C0 hX hbl q ih18 hi18 x3 h H locs ls hw (lv_sub hl [0, 1, 2, 3] rfl)
    have h := ok_f h c13
    by_cases c18 : ((xs x3.toNatClampNeg) &&& (7 : Int32)) = (2 : Int32)
    · have h := ok_t h c18
      refine lv_tableIn (off := 114) (tgt := 146) hx hb d_law_32 (by rw [c18]; decide) (by rw [c18]; decide) (by rw [c18]; rfl) (by decide) ?_
      refine lv_aload_n hx hb d_law_146 rfl (lv_at hl 1 rfl) ?_
      refine lv_aload_n hx hb d_law_147 rfl (lv_at hl 0 rfl) ?_
      refine lv_iload_n hx hb d_law_148 rfl (lv_at hl 3 rfl) ?_
      refine lv_iconst (v := (1 : Int32)) hx hb d_law_149 (by decide) ?_
      refine lv_iadd hx hb d_law_150 ?_
      obtain ⟨b19, h⟩ := ok_g h
      refine va_sld hx hb hX hbl hbA hw.2.2 b19 d_law_151 ?_
      refine lv_aload_n hx hb d_law_152 rfl (lv_at hl 0 rfl) ?_
      refine lv_iload_n hx hb d_law_153 rfl (lv_at hl 3 rfl) ?_
      refine lv_iconst (v := (2 : Int32)) hx hb d_law_154 (by decide) ?_
      refine lv_iadd hx hb d_law_155 ?_
      obtain ⟨b20, h⟩ := ok_g h
      refine va_sld hx hb hX hbl hbA hw.2.2 b20 d_law_156 ?_
      refine lv_aload_n hx hb d_law_157 rfl (lv_at hl 0 rfl) ?_
      refine lv_iload_n hx hb d_law_158 rfl (lv_at hl 3 rfl) ?_
      refine lv_iconst (v := (3 : Int32)) hx hb d_law_159 (by decide) ?_
      refine lv_iadd hx hb d_law_160 ?_
      obtain ⟨b21, h⟩ := ok_g h
      refine va_sld hx hb hX hbl hbA hw.2.2 b21 d_law_161 ?_
      obtain ⟨r22, er22, h⟩ := ok_b h
      have hw : z_wd D (z_K ad ca q.1 ++ z_M bd cb q.2) (fun q : Nat => s.heap.size ≤ q) s H locs := hw
      refine z_Lvi (rest := []) C0 (z_2tl hK) hw (c_Co_set (xs (x3 + (1 : Int32)).toNatClampNeg) (xs (x3 + (2 : Int32)).toNatClampNeg) (xs (x3 + (3 : Int32)).toNatClampNeg) q.1 r22 er22) mw_Co_set ml_La_23 0 rfl ⟨Nat.le_of_ble_eq_true rfl, Nat.le_of_ble_eq_true rfl⟩ ⟨Nat.le_of_ble_eq_true rfl, Nat.le_of_ble_eq_true rfl⟩ rfl hl.1 rfl (Nat.le_of_ble_eq_true rfl) d_law_162 (fun H locs hw => ?_)
      have hw : z_wd D (z_2 ad ca bd cb (r22.2, q.2)) (fun q : Nat => s.heap.size ≤ q) s H locs := hw
      refine lv_pop hx hb d_law_165 rfl ?_
      refine lv_aload_n hx hb d_law_166 rfl (lv_at hl 2 rfl) ?_
      refine lv_aload_n hx hb d_law_167 rfl (lv_at hl 0 rfl) ?_
      refine lv_iload_n hx hb d_law_168 rfl (lv_at hl 3 rfl) ?_
      refine lv_iconst (v := (1 : Int32)) hx hb d_law_169 (by decide) ?_
      refine lv_iadd hx hb d_law_170 ?_
      obtain ⟨b23, h⟩ := ok_g h
      refine va_sld hx hb hX hbl hbA hw.2.2 b23 d_law_171 ?_
      refine lv_aload_n hx hb d_law_172 rfl (lv_at hl 0 rfl) ?_
      refine lv_iload_n hx hb d_law_173 rfl (lv_at hl 3 rfl) ?_
      refine lv_iconst (v := (2 : Int32)) hx hb d_law_174 (by decide) ?_
      refine lv_iadd hx hb d_law_175 ?_
      obtain ⟨b24, h⟩ := ok_g h
      refine va_sld hx hb hX hbl hbA hw.2.2 b24 d_law_176 ?_
      refine lv_aload_n hx hb d_law_177 rfl (lv_at hl 0 rfl) ?_
      refine lv_iload_n hx hb d_law_178 rfl (lv_at hl 3 rfl) ?_
      refine lv_iconst (v := (3 : Int32)) hx hb d_law_179 (by decide) ?_
      refine lv_iadd hx hb d_law_180 ?_
      obtain ⟨b25, h⟩ := ok_g h
      refine va_sld hx hb hX hbl hbA hw.2.2 b25 d_law_181 ?_
      obtain ⟨r26, er26, h⟩ := ok_b h
      have hw : z_wd D (z_K ad ca r22.2 ++ z_M bd cb q.2) (fun q : Nat => s.heap.size ≤ q) s H locs := hw
      refine z_Rvi (rest := []) C0 (z_2tr hK) hw (c_Mo_set (xs (x3 + (1 : Int32)).toNatClampNeg) (xs (x3 + (2 : Int32)).toNatClampNeg) (xs (x3 + (3 : Int32)).toNatClampNeg) q.2 r26 er26) mw_Mo_set ml_La_26 0 rfl ⟨Nat.le_of_ble_eq_true rfl, Nat.le_of_ble_eq_true rfl⟩ ⟨Nat.le_of_ble_eq_true rfl, Nat.le_of_ble_eq_true rfl⟩ rfl hl.1 rfl (Nat.le_of_ble_eq_true rfl) d_law_182 (fun H locs hw => ?_)
      have hw : z_wd D (z_2 ad ca bd cb (r22.2, r26.2)) (fun q : Nat => s.heap.size ≤ q) s H locs := hw
      refine lv_pop hx hb d_law_185 rfl ?_
      refine lv_goto (tgt := 328) hx hb d_law_186 (by decide) ?_
      exact w_law_328 C0 hX hbl (r22.2, r26.2) ih18 hi18 x3 h H locs ls hw (lv_sub hl [0, 1, 2, 3] rfl)
    have h := ok_f h c18
    by_cases c27 : ((xs x3.toNatClampNeg) &&& (7 : Int32)) = (3 : Int32)
    · have h := ok_t h c27
      refine lv_tableIn (off := 157) (tgt := 189) hx hb d_law_32 (by rw [c27]; decide) (by rw [c27]; decide) (by rw [c27]; rfl) (by decide) ?_
      refine lv_aload_n hx hb d_law_189 rfl (lv_at hl 1 rfl) ?_
      refine lv_aload_n hx hb d_law_190 rfl (lv_at hl 0 rfl) ?_
      refine lv_iload_n hx hb d_law_191 rfl (lv_at hl 3 rfl) ?_
      refine lv_iconst (v := (1 : Int32)) hx hb d_law_192 (by decide) ?_
      refine lv_iadd hx hb d_law_193 ?_
      obtain ⟨b28, h⟩ := ok_g h
      refine va_sld hx hb hX hbl hbA hw.2.2 b28 d_law_194 ?_
      obtain ⟨r29, er29, h⟩ := ok_b h
      have hw : z_wd D (z_K ad ca q.1 ++ z_M bd cb q.2) (fun q : Nat => s.heap.size ≤ q) s H locs := hw
      refine z_Lvl (rest := []) C0 (z_2tl hK) hw (c_Co_get (xs (x3 + (1 : Int32)).toNatClampNeg) q.1 r29 er29) mw_Co_get ml_La_27 0 rfl ⟨Nat.le_of_ble_eq_true rfl, Nat.le_of_ble_eq_true rfl⟩ ⟨Nat.le_of_ble_eq_true rfl, Nat.le_of_ble_eq_true rfl⟩ rfl hl.1 rfl (Nat.le_of_ble_eq_true rfl) d_law_195 (fun H locs hw => ?_)
      have hw : z_wd D (z_2 ad ca bd cb q) (fun q : Nat => s.heap.size ≤ q) s H locs := hw
      refine lv_pop2_2 hx hb d_law_198 rfl ?_
      refine lv_aload_n hx hb d_law_199 rfl (lv_at hl 2 rfl) ?_
      refine lv_aload_n hx hb d_law_200 rfl (lv_at hl 0 rfl) ?_
      refine lv_iload_n hx hb d_law_201 rfl (lv_at hl 3 rfl) ?_
      refine lv_iconst (v := (1 : Int32)) hx hb d_law_202 (by decide) ?_
      refine lv_iadd hx hb d_law_203 ?_
      obtain ⟨b30, h⟩ := ok_g h
      refine va_sld hx hb hX hbl hbA hw.2.2 b30 d_law_204 ?_
      obtain ⟨r31, er31, h⟩ := ok_b h
      have hw : z_wd D (z_K ad ca q.1 ++ z_M bd cb q.2) (fun q : Nat => s.heap.size ≤ q) s H locs := hw
      refine z_Rvl (rest := []) C0 (z_2tr hK) hw (c_Mo_get (xs (x3 + (1 : Int32)).toNatClampNeg) q.2 r31 er31) mw_Mo_get ml_La_30 0 rfl ⟨Nat.le_of_ble_eq_true rfl, Nat.le_of_ble_eq_true rfl⟩ ⟨Nat.le_of_ble_eq_true rfl, Nat.le_of_ble_eq_true rfl⟩ rfl hl.1 rfl (Nat.le_of_ble_eq_true rfl) d_law_205 (fun H locs hw => ?_)
      have hw : z_wd D (z_2 ad ca bd cb q) (fun q : Nat => s.heap.size ≤ q) s H locs := hw
      refine lv_pop2_2 hx hb d_law_208 rfl ?_
      refine lv_goto (tgt := 328) hx hb d_law_209 (by decide) ?_
      exact w_law_328 C0 hX hbl q ih18 hi18 x3 h H locs ls hw (lv_sub hl [0, 1, 2, 3] rfl)
    have h := ok_f h c27
    by_cases c32 : ((xs x3.toNatClampNeg) &&& (7 : Int32)) = (4 : Int32)
    · have h := ok_t h c32
      refine lv_tableIn (off := 180) (tgt := 212) hx hb d_law_32 (by rw [c32]; decide) (by rw [c32]; decide) (by rw [c32]; rfl) (by decide) ?_
      refine lv_aload_n hx hb d_law_212 rfl (lv_at hl 1 rfl) ?_
      refine lv_aload_n hx hb d_law_213 rfl (lv_at hl 0 rfl) ?_
      refine lv_iload_n hx hb d_law_214 rfl (lv_at hl 3 rfl) ?_
      refine lv_iconst (v := (1 : Int32)) hx hb d_law_215 (by decide) ?_
      refine lv_iadd hx hb d_law_216 ?_
      obtain ⟨b33, h⟩ := ok_g h
      refine va_sld hx hb hX hbl hbA hw.2.2 b33 d_law_217 ?_
      refine lv_if_eq (tgt := 225) hx hb d_law_218 (by decide) (fun c34 => ?_) (fun c34 => ?_)
      · have h := ok_t h c34
        refine lv_iconst (v := (0 : Int32)) hx hb d_law_225 (by decide) ?_
        exact w_law_226 C0 hX hbl q ih18 hi18 x3 (0 : Int32) h H locs ls hw (lv_sub hl [0, 1, 2, 3] rfl)
      · have h := ok_f h c34
        refine lv_iconst (v := (1 : Int32)) hx hb d_law_221 (by decide) ?_
        refine lv_goto (tgt := 226) hx hb d_law_222 (by decide) ?_
        exact w_law_226 C0 hX hbl q ih18 hi18 x3 (1 : Int32) h H locs ls hw (lv_sub hl [0, 1, 2, 3] rfl)
    have h := ok_f h c32
    by_cases c39 : ((xs x3.toNatClampNeg) &&& (7 : Int32)) = (5 : Int32)
    · have h := ok_t h c39
      refine lv_tableIn (off := 217) (tgt := 249) hx hb d_law_32 (by rw [c39]; decide) (by rw [c39]; decide) (by rw [c39]; rfl) (by decide) ?_
      refine lv_aload_n hx hb d_law_249 rfl (lv_at hl 1 rfl) ?_
      obtain ⟨r40, er40, h⟩ := ok_b h
      have hw : z_wd D (z_K ad ca q.1 ++ z_M bd cb q.2) (fun q : Nat => s.heap.size ≤ q) s H locs := hw
      refine z_Lvi (rest := []) C0 (z_2tl hK) hw (c_Co_step q.1 r40 er40) mw_Co_step ml_La_36 0 rfl ⟨Nat.le_of_ble_eq_true rfl, Nat.le_of_ble_eq_true rfl⟩ ⟨Nat.le_of_ble_eq_true rfl, Nat.le_of_ble_eq_true rfl⟩ rfl hl.1 rfl (Nat.le_of_ble_eq_true rfl) d_law_250 (fun H locs hw => ?_)
      have hw : z_wd D (z_2 ad ca bd cb (r40.2, q.2)) (fun q : Nat => s.heap.size ≤ q) s H locs := hw
      refine lv_pop hx hb d_law_253 rfl ?_
      refine lv_aload_n hx hb d_law_254 rfl (lv_at hl 2 rfl) ?_
      obtain ⟨r41, er41, h⟩ := ok_b h
      have hw : z_wd D (z_K ad ca r40.2 ++ z_M bd cb q.2) (fun q : Nat => s.heap.size ≤ q) s H locs := hw
      refine z_Rvi (rest := []) C0 (z_2tr hK) hw (c_Mo_step q.2 r41 er41) mw_Mo_step ml_La_40 0 rfl ⟨Nat.le_of_ble_eq_true rfl, Nat.le_of_ble_eq_true rfl⟩ ⟨Nat.le_of_ble_eq_true rfl, Nat.le_of_ble_eq_true rfl⟩ rfl hl.1 rfl (Nat.le_of_ble_eq_true rfl) d_law_255 (fun H locs hw => ?_)
      have hw : z_wd D (z_2 ad ca bd cb (r40.2, r41.2)) (fun q : Nat => s.heap.size ≤ q) s H locs := hw
      refine lv_pop hx hb d_law_258 rfl ?_
      refine lv_goto (tgt := 328) hx hb d_law_259 (by decide) ?_
      exact w_law_328 C0 hX hbl (r40.2, r41.2) ih18 hi18 x3 h H locs ls hw (lv_sub hl [0, 1, 2, 3] rfl)
    have h := ok_f h c39
    by_cases c42 : ((xs x3.toNatClampNeg) &&& (7 : Int32)) = (6 : Int32)
    · have h := ok_t h c42
      refine lv_tableIn (off := 230) (tgt := 262) hx hb d_law_32 (by rw [c42]; decide) (by rw [c42]; decide) (by rw [c42]; rfl) (by decide) ?_
      refine lv_aload_n hx hb d_law_262 rfl (lv_at hl 1 rfl) ?_
      refine lv_aload_n hx hb d_law_263 rfl (lv_at hl 0 rfl) ?_
      refine lv_iload_n hx hb d_law_264 rfl (lv_at hl 3 rfl) ?_
      refine lv_iconst (v := (1 : Int32)) hx hb d_law_265 (by decide) ?_
      refine lv_iadd hx hb d_law_266 ?_
      obtain ⟨b43, h⟩ := ok_g h
      refine va_sld hx hb hX hbl hbA hw.2.2 b43 d_law_267 ?_
      obtain ⟨r44, er44, h⟩ := ok_b h
      have hw : z_wd D (z_K ad ca q.1 ++ z_M bd cb q.2) (fun q : Nat => s.heap.size ≤ q) s H locs := hw
      refine z_Lvi (rest := []) C0 (z_2tl hK) hw (c_Co_run (xs (x3 + (1 : Int32)).toNatClampNeg) q.1 r44 er44) mw_Co_run ml_La_41 0 rfl ⟨Nat.le_of_ble_eq_true rfl, Nat.le_of_ble_eq_true rfl⟩ ⟨Nat.le_of_ble_eq_true rfl, Nat.le_of_ble_eq_true rfl⟩ rfl hl.1 rfl (Nat.le_of_ble_eq_true rfl) d_law_268 (fun H locs hw => ?_)
      have hw : z_wd D (z_2 ad ca bd cb (r44.2, q.2)) (fun q : Nat => s.heap.size ≤ q) s H locs := hw
      refine lv_aload_n hx hb d_law_271 rfl (lv_at hl 2 rfl) ?_
      refine lv_aload_n hx hb d_law_272 rfl (lv_at hl 0 rfl) ?_
      refine lv_iload_n hx hb d_law_273 rfl (lv_at hl 3 rfl) ?_
      refine lv_iconst (v := (1 : Int32)) hx hb d_law_274 (by decide) ?_
      refine lv_iadd hx hb d_law_275 ?_
      obtain ⟨b45, h⟩ := ok_g h
      refine va_sld hx hb hX hbl hbA hw.2.2 b45 d_law_276 ?_
      obtain ⟨r46, er46, h⟩ := ok_b h
      have hw : z_wd D (z_K ad ca r44.2 ++ z_M bd cb q.2) (fun q : Nat => s.heap.size ≤ q) s H locs := hw
      refine z_Rvi (rest := [.int r44.1]) C0 (z_2tr hK) hw (c_Mo_run (xs (x3 + (1 : Int32)).toNatClampNeg) q.2 r46 er46) mw_Mo_run ml_La_45 0 rfl ⟨Nat.le_of_ble_eq_true rfl, Nat.le_of_ble_eq_true rfl⟩ ⟨Nat.le_of_ble_eq_true rfl, Nat.le_of_ble_eq_true rfl⟩ rfl hl.1 rfl (Nat.le_of_ble_eq_true rfl) d_law_277 (fun H locs hw => ?_)
      have hw : z_wd D (z_2 ad ca bd cb (r44.2, r46.2)) (fun q : Nat => s.heap.size ≤ q) s H locs := hw
      refine lv_icmp_eq (tgt := 328) hx hb d_law_280 (by decide) (fun c47 => ?_) (fun c47 => ?_)
      · have h := ok_t h c47
        exact w_law_328 C0 hX hbl (r44.2, r46.2) ih18 hi18 x3 h H locs ls hw (lv_sub hl [0, 1, 2, 3] rfl)
      · have h := ok_f h c47
        refine lv_iconst (v := (0 : Int32)) hx hb d_law_283 (by decide) ?_
        exact absurd (Option.some.inj h) (by decide)
    have h := ok_f h c42
    by_cases c48 : ((xs x3.toNatClampNeg) &&& (7 : Int32)) = (7 : Int32)
    · have h := ok_t h c48
      refine lv_tableIn (off := 253) (tgt := 285) hx hb d_law_32 (by rw [c48]; decide) (by rw [c48]; decide) (by rw [c48]; rfl) (by decide) ?_
      refine lv_aload_n hx hb d_law_285 rfl (lv_at hl 1 rfl) ?_
      refine lv_aload_n hx hb d_law_286 rfl (lv_at hl 0 rfl) ?_
      refine lv_iload_n hx hb d_law_287 rfl (lv_at hl 3 rfl) ?_
      refine lv_iconst (v := (1 : Int32)) hx hb d_law_288 (by decide) ?_
      refine lv_iadd hx hb d_law_289 ?_
      obtain ⟨b49, h⟩ := ok_g h
      refine va_sld hx hb hX hbl hbA hw.2.2 b49 d_law_290 ?_
      refine lv_aload_n hx hb d_law_291 rfl (lv_at hl 0 rfl) ?_
      refine lv_iload_n hx hb d_law_292 rfl (lv_at hl 3 rfl) ?_
      refine lv_iconst (v := (2 : Int32)) hx hb d_law_293 (by decide) ?_
      refine lv_iadd hx hb d_law_294 ?_
      obtain ⟨b50, h⟩ := ok_g h
      refine va_sld hx hb hX hbl hbA hw.2.2 b50 d_law_295 ?_
      refine lv_aload_n hx hb d_law_296 rfl (lv_at hl 0 rfl) ?_
      refine lv_iload_n hx hb d_law_297 rfl (lv_at hl 3 rfl) ?_
      refine lv_iconst (v := (3 : Int32)) hx hb d_law_298 (by decide) ?_
      refine lv_iadd hx hb d_law_299 ?_
      obtain ⟨b51, h⟩ := ok_g h
      refine va_sld hx hb hX hbl hbA hw.2.2 b51 d_law_300 ?_
      obtain ⟨r52, er52, h⟩ := ok_b h
      have hw : z_wd D (z_K ad ca q.1 ++ z_M bd cb q.2) (fun q : Nat => s.heap.size ≤ q) s H locs := hw
      refine z_Lvl (rest := []) C0 (z_2tl hK) hw (c_Co_look (xs (x3 + (1 : Int32)).toNatClampNeg) (xs (x3 + (2 : Int32)).toNatClampNeg) (xs (x3 + (3 : Int32)).toNatClampNeg) q.1 r52 er52) mw_Co_look ml_La_46 0 rfl ⟨Nat.le_of_ble_eq_true rfl, Nat.le_of_ble_eq_true rfl⟩ ⟨Nat.le_of_ble_eq_true rfl, Nat.le_of_ble_eq_true rfl⟩ rfl hl.1 rfl (Nat.le_of_ble_eq_true rfl) d_law_301 (fun H locs hw => ?_)
      have hw : z_wd D (z_2 ad ca bd cb q) (fun q : Nat => s.heap.size ≤ q) s H locs := hw
      refine lv_pop2_2 hx hb d_law_304 rfl ?_
      refine lv_aload_n hx hb d_law_305 rfl (lv_at hl 2 rfl) ?_
      refine lv_aload_n hx hb d_law_306 rfl (lv_at hl 0 rfl) ?_
      refine lv_iload_n hx hb d_law_307 rfl (lv_at hl 3 rfl) ?_
      refine lv_iconst (v := (1 : Int32)) hx hb d_law_308 (by decide) ?_
      refine lv_iadd hx hb d_law_309 ?_
      obtain ⟨b53, h⟩ := ok_g h
      refine va_sld hx hb hX hbl hbA hw.2.2 b53 d_law_310 ?_
      refine lv_aload_n hx hb d_law_311 rfl (lv_at hl 0 rfl) ?_
      refine lv_iload_n hx hb d_law_312 rfl (lv_at hl 3 rfl) ?_
      refine lv_iconst (v := (2 : Int32)) hx hb d_law_313 (by decide) ?_
      refine lv_iadd hx hb d_law_314 ?_
      obtain ⟨b54, h⟩ := ok_g h
      refine va_sld hx hb hX hbl hbA hw.2.2 b54 d_law_315 ?_
      refine lv_aload_n hx hb d_law_316 rfl (lv_at hl 0 rfl) ?_
      refine lv_iload_n hx hb d_law_317 rfl (lv_at hl 3 rfl) ?_
      refine lv_iconst (v := (3 : Int32)) hx hb d_law_318 (by decide) ?_
      refine lv_iadd hx hb d_law_319 ?_
      obtain ⟨b55, h⟩ := ok_g h
      refine va_sld hx hb hX hbl hbA hw.2.2 b55 d_law_320 ?_
      obtain ⟨r56, er56, h⟩ := ok_b h
      have hw : z_wd D (z_K ad ca q.1 ++ z_M bd cb q.2) (fun q : Nat => s.heap.size ≤ q) s H locs := hw
      refine z_Rvl (rest := []) C0 (z_2tr hK) hw (c_Mo_look (xs (x3 + (1 : Int32)).toNatClampNeg) (xs (x3 + (2 : Int32)).toNatClampNeg) (xs (x3 + (3 : Int32)).toNatClampNeg) q.2 r56 er56) mw_Mo_look ml_La_50 0 rfl ⟨Nat.le_of_ble_eq_true rfl, Nat.le_of_ble_eq_true rfl⟩ ⟨Nat.le_of_ble_eq_true rfl, Nat.le_of_ble_eq_true rfl⟩ rfl hl.1 rfl (Nat.le_of_ble_eq_true rfl) d_law_321 (fun H locs hw => ?_)
      have hw : z_wd D (z_2 ad ca bd cb (q.1, r56.2)) (fun q : Nat => s.heap.size ≤ q) s H locs := hw
      refine lv_pop2_2 hx hb d_law_324 rfl ?_
      refine lv_goto (tgt := 328) hx hb d_law_325 (by decide) ?_
      exact w_law_328 C0 hX hbl (q.1, r56.2) ih18 hi18 x3 h H locs ls hw (lv_sub hl [0, 1, 2, 3] rfl)
    have h := ok_f h c48
    refine lv_tableOut (tgt := 328) hx hb d_law_32 (by have zc3 := lv_neT c3 (a := 0) rfl; have zc13 := lv_neT c13 (a := 1) rfl; have zc18 := lv_neT c18 (a := 2) rfl; have zc27 := lv_neT c27 (a := 3) rfl; have zc32 := lv_neT c32 (a := 4) rfl; have zc39 := lv_neT c39 (a := 5) rfl; have zc42 := lv_neT c42 (a := 6) rfl; have zc48 := lv_neT c48 (a := 7) rfl; omega) (by decide) ?_
    exact w_law_328 C0 hX hbl q ih18 hi18 x3 h H locs ls hw (lv_sub hl [0, 1, 2, 3] rfl)
theorem w_law_18 {p : Program} {l : Launch} {e : Env} {s : State} {m : MethodId} {below : List Frame} {meth : Method} {c : Code} {D : va_G} {ad : Nat → Nat} {ca : Nat → ClassId} {bd : Nat → Nat} {cb : Nat → ClassId} {b L : Nat} {xs : Nat → Int32} (C0 : z_cx z_RLa code 4 ret D (z_2t ca cb) (fun q : Nat => s.heap.size ≤ q) p s m #[Value.ref b] meth c) (hX : va_X b L xs s s.heap) (hbl : b < s.heap.size) (q : (z_Sg × z_Sg)) (x3 : Int32) (h : k_law_18 xs L x3 q = some 1) : ∀ (H : Heap) (locs : List Loc) (ls : Array Slot), z_wd D (z_2 ad ca bd cb q) (fun q : Nat => s.heap.size ≤ q) s H locs → lv_has ls 4 [(0, .ref b), (1, .ref (ad 0)), (2, .ref (bd 0)), (3, .int x3)] → W p l e room_1 s m #[Value.ref b] below meth c H locs 30 37115 (lw_Z below #[Value.ref b] s) (F0 m 18 ls []) := by
  have key : ∀ (n : Nat) (a : Int32 × (z_Sg × z_Sg)), z_lo (fun ih18 a => kb_law_18 xs L ih18 a.1 a.2) n a = some 1 → ∀ (H : Heap) (locs : List Loc) (ls : Array Slot), z_wd D (z_2 ad ca bd cb a.2) (fun q : Nat => s.heap.size ≤ q) s H locs → lv_has ls 4 [(0, .ref b), (1, .ref (ad 0)), (2, .ref (bd 0)), (3, .int a.1)] → W p l e room_1 s m #[Value.ref b] below meth c H locs 30 37115 (lw_Z below #[Value.ref b] s) (F0 m 18 ls []) := by
    intro n
    induction n with
    | zero => intro a h; cases h
    | succ n ih => exact fun a h => wb_law_18 C0 hX hbl a.2 (z_lo (fun ih18 a => kb_law_18 xs L ih18 a.1 a.2) n) ih a.1 h
  exact key 2000 (x3, q) h
