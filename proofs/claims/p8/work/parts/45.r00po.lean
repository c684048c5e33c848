def z_po {α : Type} (x : Option α) (P : α → Prop) : Prop := ∀ a, x = some a → P a
theorem po_i {α : Type} {c : Prop} {d : Decidable c} {a b : Option α} {P : α → Prop} (h1 : c → z_po a P) (h2 : ¬ c → z_po b P) : z_po (@ite _ c d a b) P := by
  by_cases h : c
  · rw [if_pos h]; exact h1 h
  · rw [if_neg h]; exact h2 h
theorem po_g {α : Type} {c : Prop} {d : Decidable c} {b : Option α} {P : α → Prop} (h2 : ¬ c → z_po b P) : z_po (@ite _ c d none b) P := by
  by_cases h : c
  · rw [if_pos h]; intro a ha; cases ha
  · rw [if_neg h]; exact h2 h
theorem po_t {α : Type} {c : Prop} {d : Decidable c} {a b : Option α} {P : α → Prop} (h : c) (h1 : z_po a P) : z_po (@ite _ c d a b) P := by rw [if_pos h]; exact h1
theorem po_f {α : Type} {c : Prop} {d : Decidable c} {a b : Option α} {P : α → Prop} (h : ¬ c) (h1 : z_po b P) : z_po (@ite _ c d a b) P := by rw [if_neg h]; exact h1
theorem po_G {α : Type} {c : Prop} {d : Decidable c} {a : Option α} {P : α → Prop} (h2 : c → z_po a P) : z_po (@z_gd α c d a) P := by
  unfold z_gd
  by_cases h : c
  · rw [if_pos h]; exact h2 h
  · rw [if_neg h]; intro a ha; cases ha
theorem po_n {α β : Type} {e : α} {k : α → Option β} {P : β → Prop} (h : ∀ n, n = e → z_po (k n) P) : z_po (z_nm e k) P := h e rfl
theorem po_b {α β : Type} {x : Option α} {k : α → Option β} {R : α → Prop} {P : β → Prop} (h : z_po x R) (h2 : ∀ a, R a → z_po (k a) P) : z_po (x.bind k) P := by
  intro b hb
  cases x with
  | none => cases hb
  | some a => exact h2 a (h a rfl) b hb
theorem po_s {α : Type} {a : α} {P : α → Prop} (h : P a) : z_po (some a) P := by intro b hb; cases hb; exact h
theorem po_0 {α : Type} {P : α → Prop} : z_po (none : Option α) P := by intro b hb; cases hb
theorem po_w {α : Type} {x : Option α} {P Q : α → Prop} (h : z_po x P) (h2 : ∀ a, P a → Q a) : z_po x Q := fun a e => h2 a (h a e)
theorem po_bs {α β : Type} {a : α} {k : α → Option β} {P : β → Prop} (h : z_po (k a) P) : z_po ((some a).bind k) P := h
theorem po_and {α : Type} {x : Option α} {P Q : α → Prop} (h1 : z_po x P) (h2 : z_po x Q) : z_po x (fun a => P a ∧ Q a) := fun a e => ⟨h1 a e, h2 a e⟩
theorem po_l {α β : Type} {F : (α → Option β) → α → Option β} (I : α → Prop) {P : β → Prop}
    (h : ∀ (ih : α → Option β) (a : α), I a → (∀ a', I a' → z_po (ih a') P) → z_po (F ih a) P) (n : Nat) (a : α) (ha : I a) : z_po (z_lo F n a) P := by
  induction n generalizing a with
  | zero => exact po_0
  | succ n ih => exact h _ a ha (fun a' ha' => ih a' ha')
theorem po_ok {α : Type} {x : Option α} {P Q : α → Prop} (h : z_ok x P) (h2 : z_po x Q) : z_ok x (fun a => P a ∧ Q a) := by
  obtain ⟨a, e, ha⟩ := h
  exact ⟨a, e, ha, h2 a e⟩
def z_pk (q : z_Sg) : (Int64 × Int64 × Int64 × Int64 × Int64) × Int32 × (Nat → Int64) × (Nat → Int32) × (Nat → Int32) := ((z_gL q 0, z_gL q 1, z_gL q 2, z_gL q 3, z_gL q 4), z_gI q 3, z_gM q 1, z_gN q 0, z_gN q 2)
abbrev z_Dd : Type := Int32 × Int64 × Int32
def z_pn (q : z_Sg) : z_Dd := (z_gI q 4, z_gL q 5, z_gI q 0)
theorem pn_4 {q o : z_Sg} (h : z_pn o = z_pn q) : z_gI o 4 = z_gI q 4 := congrArg Prod.fst h
theorem pn_d {q o : z_Sg} (h : z_pn o = z_pn q) (hd : ¬ z_gI q 4 = -1) : ¬ z_gI o 4 = -1 := by rw [pn_4 h]; exact hd
theorem pn_a {q o : z_Sg} (h : z_pn o = z_pn q) (hd : z_gI q 4 = -1) : z_gI o 4 = -1 := by rw [pn_4 h]; exact hd
def z_eb {α β : Type} (x : Option (Sum z_Dd α)) (k : α → Option (Sum z_Dd β)) : Option (Sum z_Dd β) := match x with
  | none => none
  | some (.inl d) => some (.inl d)
  | some (.inr a) => k a
def z_X {β : Type} (st : β → z_Sg) (e : Option (Sum z_Dd β)) (o : β) : Prop := (z_gI (st o) 4 = -1 ∧ e = some (.inr o)) ∨ (¬ z_gI (st o) 4 = -1 ∧ e = some (.inl (z_pn (st o))))
theorem X_s {β : Type} {st : β → z_Sg} {o : β} (h : z_gI (st o) 4 = -1) : z_X st (some (.inr o)) o := Or.inl ⟨h, rfl⟩
theorem X_b {α β : Type} {s1 : α → z_Sg} {st : β → z_Sg} {x : Option α} {k : α → Option β} {e : Option (Sum z_Dd α)} {ke : α → Option (Sum z_Dd β)} (hx : z_po x (z_X s1 e)) (ha : ∀ r, z_gI (s1 r) 4 = -1 → z_po (k r) (z_X st (ke r))) (hd : ∀ r, ¬ z_gI (s1 r) 4 = -1 → z_po (k r) (fun o => z_pn (st o) = z_pn (s1 r))) : z_po (x.bind k) (z_X st (z_eb e ke)) := by
  refine po_b hx (fun r hr => ?_)
  rcases hr with ⟨h1, h2⟩ | ⟨h1, h2⟩
  · rw [h2]; exact ha r h1
  · rw [h2]
    intro o ho
    have := hd r h1 o ho
    refine Or.inr ⟨pn_d this h1, ?_⟩
    rw [this]; rfl
theorem X_n {α β : Type} {st : β → z_Sg} {e : α} {k : α → Option β} {ke : α → Option (Sum z_Dd β)} (h : ∀ n, n = e → z_po (k n) (z_X st (ke n))) : z_po (z_nm e k) (z_X st (z_nm e ke)) := h e rfl
theorem X_i {β : Type} {st : β → z_Sg} {c : Prop} {d : Decidable c} {a b : Option β} {ea eb : Option (Sum z_Dd β)} (h1 : c → z_po a (z_X st ea)) (h2 : ¬ c → z_po b (z_X st eb)) : z_po (@ite _ c d a b) (z_X st (@ite _ c d ea eb)) := by
  by_cases h : c
  · rw [if_pos h, if_pos h]; exact h1 h
  · rw [if_neg h, if_neg h]; exact h2 h
theorem X_g {β : Type} {st : β → z_Sg} {c : Prop} {d : Decidable c} {b : Option β} {eb : Option (Sum z_Dd β)} (h2 : ¬ c → z_po b (z_X st eb)) : z_po (@ite _ c d none b) (z_X st (@ite _ c d none eb)) := by
  by_cases h : c
  · rw [if_pos h]; exact po_0
  · rw [if_neg h, if_neg h]; exact h2 h
theorem X_G {β : Type} {st : β → z_Sg} {c : Prop} {d : Decidable c} {b : Option β} {eb : Option (Sum z_Dd β)} (h2 : c → z_po b (z_X st eb)) : z_po (@z_gd β c d b) (z_X st (@z_gd _ c d eb)) := by
  unfold z_gd
  by_cases h : c
  · rw [if_pos h, if_pos h]; exact h2 h
  · rw [if_neg h]; exact po_0
theorem X_p {α β : Type} {st : β → z_Sg} {x : Option α} {k : α → Option β} {ke : α → Option (Sum z_Dd β)} {R : α → Prop} (hx : z_po x R) (h : ∀ r, R r → z_po (k r) (z_X st (ke r))) : z_po (x.bind k) (z_X st (x.bind ke)) := by
  cases x with
  | none => exact po_0
  | some a => exact h a (hx a rfl)
theorem X_l {α β : Type} {st : β → z_Sg} {F : (α → Option β) → α → Option β} {G : (α → Option (Sum z_Dd β)) → α → Option (Sum z_Dd β)} (I : α → Prop) (sa : α → z_Sg)
    (hd : ∀ (q0 : z_Sg) (n : Nat) (a : α), z_pn (sa a) = z_pn q0 → ¬ z_gI q0 4 = -1 → z_po (z_lo F n a) (fun o => z_pn (st o) = z_pn q0))
    (h : ∀ (ih : α → Option β) (jh : α → Option (Sum z_Dd β)) (a : α), I a → (∀ a', I a' → z_po (ih a') (z_X st (jh a'))) → (∀ (q0 : z_Sg) (a' : α), z_pn (sa a') = z_pn q0 → ¬ z_gI q0 4 = -1 → z_po (ih a') (fun o => z_pn (st o) = z_pn q0)) → z_po (F ih a) (z_X st (G jh a))) (n : Nat) (a : α) (ha : I a) : z_po (z_lo F n a) (z_X st (z_lo G n a)) := by
  induction n generalizing a with
  | zero => exact po_0
  | succ n ih => exact h _ _ a ha (fun a' ha' => ih a' ha') (fun q0 a' => hd q0 n a')
