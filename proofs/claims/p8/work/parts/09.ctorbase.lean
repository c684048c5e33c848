/-! constructors: contracts that make cells -/
def z_cn {S : Type} (l : Launch) (y : MethodName) (cc : ByteArray) (nL fr lo mc ms : Nat) (D : va_G) (w : va_W) (av : List Value) (post : S → Prop) (w1 : S → va_W) (t1 : S → List (ClassId × FieldType)) : Prop :=
  ∀ sz : Nat, Met l y (z_ws y cc nL none) { frames := fr, cells := mc, slots := ms, locals := lo } (z_Pc D [] w av sz) (va_Qv post (fun (u : S) (t : State) => va_P D vwCl (w1 u) t.heap ∧ va_K D vwCl (t1 u) t ∧ va_D (va_A w sz) (w1 u)) (va_A w sz)) mc ms (va_A w sz)
abbrev z_qn {S : Type} (below : List Frame) (D : va_G) (post : S → Prop) (w1 : S → va_W) (t1 : S → List (ClassId × FieldType)) (A : Nat → Prop) (s : State) (args : Array Value) (mc ms : Nat) : State → Prop := MQ below (va_Qv post (fun (u : S) (t : State) => va_P D vwCl (w1 u) t.heap ∧ va_K D vwCl (t1 u) t ∧ va_D A (w1 u)) A) args s mc ms A
section Zctor
variable {p : Program} {l : Launch} {e : Env} {R : Room} {s : State} {m : MethodId} {args : Array Value} {below : List Frame} {meth : Method} {c : Code} {H : Heap} {locs : List Loc} {cells slots : Nat} {Q : State → Prop}
variable {own : String} {cc : ByteArray} {nL : Nat} {ret : Option FieldType} {D : va_G} {tys : List (ClassId × FieldType)} {A : Nat → Prop} {w w0 wr : va_W} {fr lo mc ms : Nat} {y : MethodName} {av As rest st : List Value} {pc : Nat} {ls : Array Slot}
theorem z_cn_of {S : Type} {post : S → Prop} {w1 : S → va_W} {t1 : S → List (ClassId × FieldType)} (hy : plainName y.cls = true) (hcls : y.cls = own) (hyn : y.name = "<init>")
    (body : ∀ (p : Program) (e : Env) (s : State) (m : MethodId) (below : List Frame) (meth : Method) (c : Code) (A : Nat → Prop), z_cx own cc nL none D [] A p s m av.toArray meth c → meth.name = "<init>" → va_P D vwCl w s.heap → va_D A w → va_S A s.heap s.heap [] → W p l e { frames := fr, cells := mc, slots := ms, locals := lo } s m av.toArray below meth c s.heap [] 0 0 (z_qn below D post w1 t1 A s av.toArray mc ms) (entryFrame m av.toArray nL)) : z_cn l y cc nL fr lo mc ms D w av post w1 t1 := by
  intro sz
  refine Met.ofW (cc := cc) (maxL := nL) (ret := none) hy rfl ?_
  intro p e s m args below meth c s₁ B hml hv
  obtain ⟨rfl, hsz, hP, hK, hD0⟩ := hv
  have hts := atoms_spec (ws := z_ws y cc nL none) B.pre
  have hown : s.vm.findClass own = some m.cls := by rw [← hcls]; exact findClass_of_methodNamed B.named
  subst hsz
  exact body p e s m below meth c (va_A w s.heap.size) ⟨B.exec, B.bytes, B.returns, B.notSynchronized, hml, hown, fun w' h => hts w' (List.mem_cons_of_mem _ h), hK, fun q h => Or.inr h⟩ ((name_of_methodNamed B.named B.method).1.trans hyn) hP hD0.self va_S.rf
theorem z_rtn {S : Type} {post : S → Prop} {w1 : S → va_W} {t1 : S → List (ClassId × FieldType)} (u : S) (C0 : z_cx own cc nL none D [] A p s m args meth c) (hu : post u) (hP : va_P D vwCl (w1 u) H) (hD : va_D A (w1 u)) (hS : va_S A s.heap H locs) (hK : va_K D vwCl (t1 u) s) (h1 : cells = mc) (h2 : slots = ms) (d : decode cc pc = .ok (.return_, 1)) : W p l e R s m args below meth c H locs cells slots (z_qn below D post w1 t1 A s args mc ms) (F0 m pc ls []) := by
  obtain ⟨hx, hb, hr, hlk, hml, hown, hts, hK0, hA⟩ := C0
  subst h1
  subst h2
  exact W.vret hx hb hr (fun t ht hW => ⟨⟨u, rfl, hu, by rw [ht]; exact hP, va_K.moved hW.alike hK, hD⟩, hS.F ht⟩) hS.2.2 d
/-- what a constructor's own words say -/
def z_mi (y : MethodName) (cc : ByteArray) (nL : Nat) (n : Nat) : Prop :=
  Cond.instanceMethod y ∈ z_tbl ∧ Cond.initialized y.cls ∈ z_tbl ∧ Cond.code y cc nL none ∈ z_tbl ∧ y.name = "<init>" ∧ y.cls ≠ "java/lang/invoke/MethodHandle" ∧ y.cls ≠ "java/lang/invoke/VarHandle" ∧ (parseMethodDescriptor y.desc).map (fun d => d.parameters.length) = some n
/-- the call of a constructor, with up to 16 words below it on the stack -/
theorem z_in {S : Type} {post : S → Prop} {w1 : S → va_W} {t1 : S → List (ClassId × FieldType)} {cc' : ByteArray} {nL' n idx : Nat} {b : Nat} (C0 : z_cx own cc nL ret D [] A p s m args meth c) (hK : va_K D vwCl tys s) (hP : va_P D vwCl w0 H) (hD : va_D A w0) (hS : va_S A s.heap H locs) (hc : z_cn l y cc' nL' fr lo mc ms D w (.ref b :: As) post w1 t1) (hm : z_mi y cc' nL' n) (hk : Cond.methodLink own idx y ∈ z_tbl) (isC isR : List Nat) (hC : isC.map (fun i => w0[i]?) = w.map some) (hR : isR.map (fun i => w0[i]?) = wr.map some) (hnd : va_nd isR = true) (hnc : va_nd isC = true) (hdis : ∀ i ∈ isR, i ∉ isC) (hro : fr + 1 ≤ R.frames ∧ 16 + (nL' + 11) + lo ≤ R.locals) (hf : cells + mc ≤ R.cells ∧ slots + ms ≤ R.slots) (hn : As.length = n) (hl : ls.size = nL) (hst : st = As.reverse ++ .ref b :: rest) (hrest : (rest.map fun v => v.category).sum ≤ 16) (d : decode cc pc = .ok (.invokespecial idx, 3))
    (k : ∀ (u : S) (H1 : Heap) (locs1 : List Loc), post u → va_P D vwCl (wr ++ w1 u) H1 → va_D A (wr ++ w1 u) → va_S A s.heap H1 locs1 → va_K D vwCl (tys ++ t1 u) s → W p l e R s m args below meth c H1 locs1 (cells + mc) (slots + ms) Q (F0 m (pc + 3) ls rest)) : W p l e R s m args below meth c H locs cells slots Q (F0 m pc ls st) := by
  obtain ⟨hx, hb, hr, hlk, hml, hown, hts, hK0, hA⟩ := C0
  obtain ⟨hi, hini, hco, hyn, hd1, hd2, hd3⟩ := hm
  have hF : ∀ q, va_A w H.size q → A q := va_free hD hS hA isC hC
  have hDc : va_D A w := hD.sub isC hnc hC
  have hPc : va_P D vwCl w H := by
    refine fun j q hj => ?_
    have h1 : (isC.map (fun i => w0[i]?))[j]? = some (some q) := by rw [hC, List.getElem?_map, hj]; rfl
    rw [List.getElem?_map] at h1
    cases hi : isC[j]? with
    | none => rw [hi] at h1; cases h1
    | some i => rw [hi] at h1; exact hP i q (Option.some.inj h1)
  have hrun : va_Run p l e R s m args below meth c H locs cells slots mc ms (F0 m pc ls st) rest (va_Qv post (fun (u : S) (t : State) => va_P D vwCl (w1 u) t.heap ∧ va_K D vwCl (t1 u) t ∧ va_D (va_A w H.size) (w1 u)) (va_A w H.size) (Value.ref b :: As).toArray) (va_A w H.size) := by
    have hKb : Back l R p e below s args y 3 16 (PreOf R mc ms (z_Pc D [] w (.ref b :: As) H.size)) (PostOf (va_Qv post (fun (u : S) (t : State) => va_P D vwCl (w1 u) t.heap ∧ va_K D vwCl (t1 u) t ∧ va_D (va_A w H.size) (w1 u)) (va_A w H.size)) mc ms (va_A w H.size)) :=
      back_of (bytes := cc') (maxL := nL') (ret := none) (hc H.size) z_blind rfl rfl hro.1 hro.2 (pay_in hts (z_goodIn hco)) List.mem_cons_self (fun a' U hW => word_at hW (Or.inl (by first | rfl | simp [Cond.onTables, Cond.keeps, Cond.steady])) (hts _ hini))
    have hlen : ∀ sig, parseMethodDescriptor y.desc = some sig → n = sig.parameters.length := fun sig h => by
      rw [h] at hd3
      exact (Option.some.inj hd3).symm
    intro T hT X
    obtain ⟨v, vm₁, ⟨U', l2, c2, s2⟩, hW₁, X', ⟨g', mk, t, L, e1, e2, hq, h1, hL, h2, h3⟩, st'⟩ := callI X hx (bytes := cc') (maxL := nL') hown hyn (hts _ hk) (hts _ hi) (hts _ hco) ⟨hd1, hd2⟩ hKb (g := F0 m pc ls st) rfl (hl.trans hml.symm) (a := b) (argsL := As) (rest := rest) (fun sig h => hn.trans (hlen sig h)) hst (by show 2 * 0 + _ ≤ 16; omega) (by rw [hb]; exact d)
      (fun vm₁ hW₁ => ⟨hf.1, hf.2, ⟨rfl, by show T.heap.size = _; rw [hT], by show va_P D vwCl w T.heap; rw [hT]; exact hPc, va_K.moved hW₁.alike hK0, hDc.weaken (fun _ _ _ _ => trivial)⟩⟩)
    dsimp only [Pt.U, Pt.locs, Pt.cells, Pt.slots] at X' e1 e2 h1 h2 h3 st'
    subst h1; subst h2; subst h3
    exact ⟨v, (T.setVm vm₁).calling g' mk (Value.ref b :: As).toArray, t, U', L, hT, X', hL, e1, e2, hq, st'⟩
  refine va_callv hrun hS (fun q _ h => hF q h) hF (fun u t H1 locs1 ht hvm hu hB hz1 hk1 hS1 => ?_)
  obtain ⟨hP1, hK1, hD1⟩ := hB
  rw [ht] at hP1
  have hK1 := va_K.moved hvm.symm hK1
  obtain ⟨hP', hD'⟩ := va_join (wr := wr) (w1 := w1 u) hP hD isC isR hC hR hnd hdis hk1 hF hP1 hD1
  exact k u H1 locs1 hu hP' hD' hS1 (hK.app hK1)
end Zctor
