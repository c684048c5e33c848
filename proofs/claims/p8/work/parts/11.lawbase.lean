/-! two worlds side by side: the class's and the reference's -/
theorem z_al {α : Type} {a b : List α} {i : Nat} {p : α} (h : a[i]? = some p) : (a ++ b)[i]? = some p := by
  have hl := (List.getElem?_eq_some_iff.mp h).1
  rw [List.getElem?_append_left hl]; exact h
theorem z_ar {α : Type} {a b : List α} {i : Nat} {p : α} (h : b[i]? = some p) : (a ++ b)[a.length + i]? = some p := by
  rw [List.getElem?_append_right (Nat.le_add_right _ _), Nat.add_sub_cancel_left]; exact h
theorem z_Pl {D : va_G} {cl : List vw_C} {a b : va_W} {H : Heap} (h : va_P D cl (a ++ b) H) : va_P D cl a H := fun k q hk => h k q (z_al hk)
theorem z_Pr {D : va_G} {cl : List vw_C} {a b : va_W} {H : Heap} (h : va_P D cl (a ++ b) H) : va_P D cl b H := fun k q hk => h _ q (z_ar hk)
theorem z_Dl {A : Nat → Prop} {a b : va_W} (h : va_D A (a ++ b)) : va_D A a := ⟨fun i j p q hi hj e => h.1 i j p q (z_al hi) (z_al hj) e, fun k q hk => h.2 k q (z_al hk)⟩
theorem z_Dr {A : Nat → Prop} {a b : va_W} (h : va_D A (a ++ b)) : va_D A b := ⟨fun i j p q hi hj e => by
  have := h.1 _ _ p q (z_ar hi) (z_ar hj) e
  omega, fun k q hk => h.2 _ q (z_ar hk)⟩
theorem z_Dx {A : Nat → Prop} {a b : va_W} (h : va_D A (a ++ b)) : ∀ (i j : Nat) (p q : Nat × va_E), a[i]? = some p → b[j]? = some q → p.1 ≠ q.1 := by
  intro i j p q hi hj e
  have h1 := h.1 _ _ p q (z_al hi) (z_ar hj) e
  have h2 := (List.getElem?_eq_some_iff.mp hi).1
  omega
theorem z_sw {D : va_G} {a b : va_W} {A : Nat → Prop} {s : State} {H : Heap} {locs : List Loc} (h : z_wd D (a ++ b) A s H locs) : z_wd D (b ++ a) A s H locs :=
  ⟨va_P.app (z_Pr h.1) (z_Pl h.1), va_D.app (z_Dr h.2.1) (z_Dl h.2.1) (fun i j p q hi hj e => z_Dx h.2.1 j i q p hj hi e.symm), h.2.2⟩
section Zlaw
variable {p : Program} {l : Launch} {e : Env} {R : Room} {s : State} {m : MethodId} {args : Array Value} {below : List Frame} {meth : Method} {c : Code} {H : Heap} {locs : List Loc} {cells slots : Nat} {Q : State → Prop}
variable {own : String} {cc : ByteArray} {nL : Nat} {ret : Option FieldType} {D : va_G} {tys t1 : List (ClassId × FieldType)} {A : Nat → Prop} {w w1 wr : va_W} {fr lo : Nat} {y : MethodName} {av As rest st : List Value} {pc : Nat} {ls : Array Slot}
theorem z_Rvi {r : Int32} {cc' : ByteArray} {nL' n idx ci N : Nat} {ret' : Option FieldType} {b : Nat} {C : String} {T : u_T} {fs : List Value} (C0 : z_cx own cc nL ret D tys A p s m args meth c) (hK1 : va_K D vwCl t1 s) (hw : z_wd D (wr ++ w) A s H locs) (hc : z_ci l y cc' nL' ret' fr lo D t1 w w1 (.ref b :: As) r) (hm : z_mw y C ci T N cc' nL' ret' n) (hk : Cond.methodLink own idx y ∈ z_tbl) (q0 : Nat) (hq : w[q0]? = some (b, .inr (ci, fs))) (hR : fr + 1 ≤ R.frames ∧ 8 + (nL' + 11) + lo ≤ R.locals) (hf : cells ≤ R.cells ∧ slots ≤ R.slots) (hn : As.length = n) (hl : ls.size = nL) (hst : st = As.reverse ++ .ref b :: rest) (hro : (rest.map fun v => v.category).sum ≤ 8) (d : decode cc pc = .ok (.invokevirtual idx, 3))
    (k : ∀ (H1 : Heap) (locs1 : List Loc), z_wd D (wr ++ w1) A s H1 locs1 → W p l e R s m args below meth c H1 locs1 cells slots Q (F0 m (pc + 3) ls (.int r :: rest))) : W p l e R s m args below meth c H locs cells slots Q (F0 m pc ls st) := by
  have hD0 := hw.2.1
  have hPr := z_Pl hw.1
  have hwc : z_wd D w A s H locs := ⟨z_Pr hw.1, z_Dr hw.2.1, hw.2.2⟩
  have hF := z_F C0 hwc
  obtain ⟨hx, hb, hr, hlk, hml, hown, hts, hK, hA⟩ := C0
  obtain ⟨hP, hD, hS⟩ := hwc
  obtain ⟨hvc, hi, hse, hini, hco, hcl, hd⟩ := hm
  have hap : ∀ (i : Nat) (x : Nat × va_E), wr[i]? = some x → ¬ va_A w H.size x.1 := by
    intro i x hx h
    rcases h with ⟨j, f, h⟩ | h
    · exact z_Dx hD0 i j x (x.1, f) hx h rfl
    · exact absurd (hPr i x hx).lt (Nat.not_lt.mpr h)
  refine va_calli (va_runV (As := As) (rest := rest) ⟨hx, hb, hml, hown, hts⟩ (hc H.size) ⟨callB_of n hts (z_goodIn hco) rfl rfl rfl (by rw [hcl]; exact hts _ hini) (hts _ hk) hd hR, hts _ hi, hts _ hse⟩ ⟨z_blind, va_recv hK1 hP hvc hq, fun U hU hW => ⟨rfl, by rw [hU], by rw [hU]; exact hP, va_K.moved hW.alike hK1, hD.weaken (fun _ _ _ _ => trivial)⟩⟩ rfl hn hl hst (lv_room hro) d hf) hS (fun q _ h => hF q h) hF (fun r' u t H1 locs1 ht hvm hr' hB hz1 hk1 hS1 => ?_)
  obtain ⟨hP1, hK1', hD1⟩ := hB
  subst hr'
  rw [ht] at hP1
  refine k H1 locs1 ⟨va_P.app (hPr.kept (fun i x hx => hk1 x.1 (hPr i x hx).lt (hap i x hx))) hP1, va_D.app (z_Dl hD0) (hD1.weaken (fun i x _ h => hF x.1 h)) (fun i j x y hx hy hxy => hap i x hx (by rw [hxy]; exact hD1.2 j y hy)), hS1⟩
theorem z_Lvi {r : Int32} {cc' : ByteArray} {nL' n idx ci N : Nat} {ret' : Option FieldType} {b : Nat} {C : String} {T : u_T} {fs : List Value} (C0 : z_cx own cc nL ret D tys A p s m args meth c) (hK1 : va_K D vwCl t1 s) (hw : z_wd D (w ++ wr) A s H locs) (hc : z_ci l y cc' nL' ret' fr lo D t1 w w1 (.ref b :: As) r) (hm : z_mw y C ci T N cc' nL' ret' n) (hk : Cond.methodLink own idx y ∈ z_tbl) (q0 : Nat) (hq : w[q0]? = some (b, .inr (ci, fs))) (hR : fr + 1 ≤ R.frames ∧ 8 + (nL' + 11) + lo ≤ R.locals) (hf : cells ≤ R.cells ∧ slots ≤ R.slots) (hn : As.length = n) (hl : ls.size = nL) (hst : st = As.reverse ++ .ref b :: rest) (hro : (rest.map fun v => v.category).sum ≤ 8) (d : decode cc pc = .ok (.invokevirtual idx, 3))
    (k : ∀ (H1 : Heap) (locs1 : List Loc), z_wd D (w1 ++ wr) A s H1 locs1 → W p l e R s m args below meth c H1 locs1 cells slots Q (F0 m (pc + 3) ls (.int r :: rest))) : W p l e R s m args below meth c H locs cells slots Q (F0 m pc ls st) :=
  z_Rvi C0 hK1 (z_sw hw) hc hm hk q0 hq hR hf hn hl hst hro d (fun H1 locs1 h => k H1 locs1 (z_sw h))
theorem z_Rvl {r : Int64} {cc' : ByteArray} {nL' n idx ci N : Nat} {ret' : Option FieldType} {b : Nat} {C : String} {T : u_T} {fs : List Value} (C0 : z_cx own cc nL ret D tys A p s m args meth c) (hK1 : va_K D vwCl t1 s) (hw : z_wd D (wr ++ w) A s H locs) (hc : z_cl l y cc' nL' ret' fr lo D t1 w w1 (.ref b :: As) r) (hm : z_mw y C ci T N cc' nL' ret' n) (hk : Cond.methodLink own idx y ∈ z_tbl) (q0 : Nat) (hq : w[q0]? = some (b, .inr (ci, fs))) (hR : fr + 1 ≤ R.frames ∧ 8 + (nL' + 11) + lo ≤ R.locals) (hf : cells ≤ R.cells ∧ slots ≤ R.slots) (hn : As.length = n) (hl : ls.size = nL) (hst : st = As.reverse ++ .ref b :: rest) (hro : (rest.map fun v => v.category).sum ≤ 8) (d : decode cc pc = .ok (.invokevirtual idx, 3))
    (k : ∀ (H1 : Heap) (locs1 : List Loc), z_wd D (wr ++ w1) A s H1 locs1 → W p l e R s m args below meth c H1 locs1 cells slots Q (F0 m (pc + 3) ls (.long r :: rest))) : W p l e R s m args below meth c H locs cells slots Q (F0 m pc ls st) := by
  have hD0 := hw.2.1
  have hPr := z_Pl hw.1
  have hwc : z_wd D w A s H locs := ⟨z_Pr hw.1, z_Dr hw.2.1, hw.2.2⟩
  have hF := z_F C0 hwc
  obtain ⟨hx, hb, hr, hlk, hml, hown, hts, hK, hA⟩ := C0
  obtain ⟨hP, hD, hS⟩ := hwc
  obtain ⟨hvc, hi, hse, hini, hco, hcl, hd⟩ := hm
  have hap : ∀ (i : Nat) (x : Nat × va_E), wr[i]? = some x → ¬ va_A w H.size x.1 := by
    intro i x hx h
    rcases h with ⟨j, f, h⟩ | h
    · exact z_Dx hD0 i j x (x.1, f) hx h rfl
    · exact absurd (hPr i x hx).lt (Nat.not_lt.mpr h)
  refine va_calll (va_runV (As := As) (rest := rest) ⟨hx, hb, hml, hown, hts⟩ (hc H.size) ⟨callB_of n hts (z_goodIn hco) rfl rfl rfl (by rw [hcl]; exact hts _ hini) (hts _ hk) hd hR, hts _ hi, hts _ hse⟩ ⟨z_blind, va_recv hK1 hP hvc hq, fun U hU hW => ⟨rfl, by rw [hU], by rw [hU]; exact hP, va_K.moved hW.alike hK1, hD.weaken (fun _ _ _ _ => trivial)⟩⟩ rfl hn hl hst (lv_room hro) d hf) hS (fun q _ h => hF q h) hF (fun r' u t H1 locs1 ht hvm hr' hB hz1 hk1 hS1 => ?_)
  obtain ⟨hP1, hK1', hD1⟩ := hB
  subst hr'
  rw [ht] at hP1
  refine k H1 locs1 ⟨va_P.app (hPr.kept (fun i x hx => hk1 x.1 (hPr i x hx).lt (hap i x hx))) hP1, va_D.app (z_Dl hD0) (hD1.weaken (fun i x _ h => hF x.1 h)) (fun i j x y hx hy hxy => hap i x hx (by rw [hxy]; exact hD1.2 j y hy)), hS1⟩
theorem z_Lvl {r : Int64} {cc' : ByteArray} {nL' n idx ci N : Nat} {ret' : Option FieldType} {b : Nat} {C : String} {T : u_T} {fs : List Value} (C0 : z_cx own cc nL ret D tys A p s m args meth c) (hK1 : va_K D vwCl t1 s) (hw : z_wd D (w ++ wr) A s H locs) (hc : z_cl l y cc' nL' ret' fr lo D t1 w w1 (.ref b :: As) r) (hm : z_mw y C ci T N cc' nL' ret' n) (hk : Cond.methodLink own idx y ∈ z_tbl) (q0 : Nat) (hq : w[q0]? = some (b, .inr (ci, fs))) (hR : fr + 1 ≤ R.frames ∧ 8 + (nL' + 11) + lo ≤ R.locals) (hf : cells ≤ R.cells ∧ slots ≤ R.slots) (hn : As.length = n) (hl : ls.size = nL) (hst : st = As.reverse ++ .ref b :: rest) (hro : (rest.map fun v => v.category).sum ≤ 8) (d : decode cc pc = .ok (.invokevirtual idx, 3))
    (k : ∀ (H1 : Heap) (locs1 : List Loc), z_wd D (w1 ++ wr) A s H1 locs1 → W p l e R s m args below meth c H1 locs1 cells slots Q (F0 m (pc + 3) ls (.long r :: rest))) : W p l e R s m args below meth c H locs cells slots Q (F0 m pc ls st) :=
  z_Rvl C0 hK1 (z_sw hw) hc hm hk q0 hq hR hf hn hl hst hro d (fun H1 locs1 h => k H1 locs1 (z_sw h))
theorem z_Rvv {cc' : ByteArray} {nL' n idx ci N : Nat} {ret' : Option FieldType} {b : Nat} {C : String} {T : u_T} {fs : List Value} (C0 : z_cx own cc nL ret D tys A p s m args meth c) (hK1 : va_K D vwCl t1 s) (hw : z_wd D (wr ++ w) A s H locs) (hc : z_cv l y cc' nL' ret' fr lo D t1 w w1 (.ref b :: As)) (hm : z_mw y C ci T N cc' nL' ret' n) (hk : Cond.methodLink own idx y ∈ z_tbl) (q0 : Nat) (hq : w[q0]? = some (b, .inr (ci, fs))) (hR : fr + 1 ≤ R.frames ∧ 8 + (nL' + 11) + lo ≤ R.locals) (hf : cells ≤ R.cells ∧ slots ≤ R.slots) (hn : As.length = n) (hl : ls.size = nL) (hst : st = As.reverse ++ .ref b :: rest) (hro : (rest.map fun v => v.category).sum ≤ 8) (d : decode cc pc = .ok (.invokevirtual idx, 3))
    (k : ∀ (H1 : Heap) (locs1 : List Loc), z_wd D (wr ++ w1) A s H1 locs1 → W p l e R s m args below meth c H1 locs1 cells slots Q (F0 m (pc + 3) ls (rest))) : W p l e R s m args below meth c H locs cells slots Q (F0 m pc ls st) := by
  have hD0 := hw.2.1
  have hPr := z_Pl hw.1
  have hwc : z_wd D w A s H locs := ⟨z_Pr hw.1, z_Dr hw.2.1, hw.2.2⟩
  have hF := z_F C0 hwc
  obtain ⟨hx, hb, hr, hlk, hml, hown, hts, hK, hA⟩ := C0
  obtain ⟨hP, hD, hS⟩ := hwc
  obtain ⟨hvc, hi, hse, hini, hco, hcl, hd⟩ := hm
  have hap : ∀ (i : Nat) (x : Nat × va_E), wr[i]? = some x → ¬ va_A w H.size x.1 := by
    intro i x hx h
    rcases h with ⟨j, f, h⟩ | h
    · exact z_Dx hD0 i j x (x.1, f) hx h rfl
    · exact absurd (hPr i x hx).lt (Nat.not_lt.mpr h)
  refine va_callv (va_runV (As := As) (rest := rest) ⟨hx, hb, hml, hown, hts⟩ (hc H.size) ⟨callB_of n hts (z_goodIn hco) rfl rfl rfl (by rw [hcl]; exact hts _ hini) (hts _ hk) hd hR, hts _ hi, hts _ hse⟩ ⟨z_blind, va_recv hK1 hP hvc hq, fun U hU hW => ⟨rfl, by rw [hU], by rw [hU]; exact hP, va_K.moved hW.alike hK1, hD.weaken (fun _ _ _ _ => trivial)⟩⟩ rfl hn hl hst (lv_room hro) d hf) hS (fun q _ h => hF q h) hF (fun u t H1 locs1 ht hvm hr' hB hz1 hk1 hS1 => ?_)
  obtain ⟨hP1, hK1', hD1⟩ := hB
  rw [ht] at hP1
  refine k H1 locs1 ⟨va_P.app (hPr.kept (fun i x hx => hk1 x.1 (hPr i x hx).lt (hap i x hx))) hP1, va_D.app (z_Dl hD0) (hD1.weaken (fun i x _ h => hF x.1 h)) (fun i j x y hx hy hxy => hap i x hx (by rw [hxy]; exact hD1.2 j y hy)), hS1⟩
theorem z_Lvv {cc' : ByteArray} {nL' n idx ci N : Nat} {ret' : Option FieldType} {b : Nat} {C : String} {T : u_T} {fs : List Value} (C0 : z_cx own cc nL ret D tys A p s m args meth c) (hK1 : va_K D vwCl t1 s) (hw : z_wd D (w ++ wr) A s H locs) (hc : z_cv l y cc' nL' ret' fr lo D t1 w w1 (.ref b :: As)) (hm : z_mw y C ci T N cc' nL' ret' n) (hk : Cond.methodLink own idx y ∈ z_tbl) (q0 : Nat) (hq : w[q0]? = some (b, .inr (ci, fs))) (hR : fr + 1 ≤ R.frames ∧ 8 + (nL' + 11) + lo ≤ R.locals) (hf : cells ≤ R.cells ∧ slots ≤ R.slots) (hn : As.length = n) (hl : ls.size = nL) (hst : st = As.reverse ++ .ref b :: rest) (hro : (rest.map fun v => v.category).sum ≤ 8) (d : decode cc pc = .ok (.invokevirtual idx, 3))
    (k : ∀ (H1 : Heap) (locs1 : List Loc), z_wd D (w1 ++ wr) A s H1 locs1 → W p l e R s m args below meth c H1 locs1 cells slots Q (F0 m (pc + 3) ls (rest))) : W p l e R s m args below meth c H locs cells slots Q (F0 m pc ls st) :=
  z_Rvv C0 hK1 (z_sw hw) hc hm hk q0 hq hR hf hn hl hst hro d (fun H1 locs1 h => k H1 locs1 (z_sw h))
end Zlaw
/-- the law's world: the class's cells, the reference's cells -/
def z_2 (ad : Nat → Nat) (ca : Nat → ClassId) (bd : Nat → Nat) (cb : Nat → ClassId) (q : z_Sg × z_Sg) : va_W := z_K ad ca q.1 ++ z_M bd cb q.2
def z_2t (ca : Nat → ClassId) (cb : Nat → ClassId) : List (ClassId × FieldType) := z_Kt ca ++ z_Mt cb
theorem z_2tl {D : va_G} {ca cb : Nat → ClassId} {s : State} (h : va_K D vwCl (z_2t ca cb) s) : va_K D vwCl (z_Kt ca) s := ⟨h.1, fun k q hk => h.2 k q (z_al hk)⟩
theorem z_2tr {D : va_G} {ca cb : Nat → ClassId} {s : State} (h : va_K D vwCl (z_2t ca cb) s) : va_K D vwCl (z_Mt cb) s := ⟨h.1, fun k q hk => h.2 _ q (z_ar hk)⟩
def z_RLa : String := "LongModeCoreLaw"
