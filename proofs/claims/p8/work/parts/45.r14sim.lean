def fw (f : Nat → Int32) : Int32 := (if f 0 = 0 then 0 else 1) ||| (if f 1 = 0 then 0 else 4) ||| (if f 2 = 0 then 0 else 16) ||| (if f 3 = 0 then 0 else 64) ||| (if f 4 = 0 then 0 else 128) ||| (if f 5 = 0 then 0 else 1024) ||| (if f 6 = 0 then 0 else 2048)
def Sim (k m : z_Sg) : Prop := (∀ i, i < 16 → z_gM k 0 i = z_gM m 0 i) ∧ z_gL k 0 = z_gL m 0 ∧ z_gL k 1 = z_gL m 1 ∧ z_gL k 2 = z_gL m 2 ∧ z_gL k 3 = z_gL m 3 ∧ z_gL k 4 = z_gL m 4 ∧ z_gL k 5 = z_gL m 5 ∧ z_gI k 1 = z_gI m 0 ∧ z_gI k 2 = z_gI m 2 ∧ z_gI k 0 = fw (z_gN m 1) ∧ memR (z_gM k 1) (z_gN m 0)
theorem Sim_r {k m : z_Sg} (h : Sim k m) {i : Nat} (hi : i < 16) : z_gM k 0 i = z_gM m 0 i := h.1 i hi
theorem Sim_0 {k m : z_Sg} (h : Sim k m) : z_gL k 0 = z_gL m 0 := h.2.1
theorem Sim_1 {k m : z_Sg} (h : Sim k m) : z_gL k 1 = z_gL m 1 := h.2.2.1
theorem Sim_2 {k m : z_Sg} (h : Sim k m) : z_gL k 2 = z_gL m 2 := h.2.2.2.1
theorem Sim_3 {k m : z_Sg} (h : Sim k m) : z_gL k 3 = z_gL m 3 := h.2.2.2.2.1
theorem Sim_4 {k m : z_Sg} (h : Sim k m) : z_gL k 4 = z_gL m 4 := h.2.2.2.2.2.1
theorem Sim_5 {k m : z_Sg} (h : Sim k m) : z_gL k 5 = z_gL m 5 := h.2.2.2.2.2.2.1
theorem Sim_c {k m : z_Sg} (h : Sim k m) : z_gI k 1 = z_gI m 0 := h.2.2.2.2.2.2.2.1
theorem Sim_u {k m : z_Sg} (h : Sim k m) : z_gI k 2 = z_gI m 2 := h.2.2.2.2.2.2.2.2.1
theorem Sim_f {k m : z_Sg} (h : Sim k m) : z_gI k 0 = fw (z_gN m 1) := h.2.2.2.2.2.2.2.2.2.1
theorem Sim_m {k m : z_Sg} (h : Sim k m) : memR (z_gM k 1) (z_gN m 0) := h.2.2.2.2.2.2.2.2.2.2
def KF (k o : z_Sg) (f : Int64) (c : Int32) : Prop := z_gM o 0 = z_gM k 0 ∧ z_gM o 1 = z_gM k 1 ∧ z_gL o 0 = z_gL k 0 ∧ z_gL o 1 = z_gL k 1 ∧ z_gL o 2 = z_gL k 2 ∧ z_gL o 3 = z_gL k 3 ∧ z_gL o 4 = z_gL k 4 ∧ z_gL o 5 = f ∧ z_gI o 1 = c ∧ z_gI o 2 = z_gI k 2 ∧ z_gI o 0 = z_gI k 0
theorem KF_self (k : z_Sg) : KF k k (z_gL k 5) (z_gI k 1) := ⟨rfl, rfl, rfl, rfl, rfl, rfl, rfl, rfl, rfl, rfl, rfl⟩
def z_r {β : Type} (k0 : z_Sg) (x : Option (Int32 × z_Sg)) (y : Option (Sum z_Dd β)) (Q : z_Sg → β → Prop) : Prop := ∀ o r, x = some o → y = some r → (∀ d, r = .inl d → ¬ o.1 = -1 ∧ KF k0 o.2 d.2.1 d.2.2) ∧ (∀ b, r = .inr b → o.1 = -1 ∧ Q o.2 b)
section Zz_r
variable {α β γ : Type} {k0 : z_Sg} {x : Option (Int32 × z_Sg)} {y : Option (Sum z_Dd β)} {Q : z_Sg → β → Prop}
theorem r_b {y' : Option (Sum z_Dd γ)} {Q' : z_Sg → γ → Prop} {kk : Int32 × z_Sg → Option (Int32 × z_Sg)} {l : γ → Option (Sum z_Dd β)} (h : z_r k0 x y' Q') (hd : ∀ o f c, ¬ o.1 = -1 → KF k0 o.2 f c → z_po (kk o) (fun o' => ¬ o'.1 = -1 ∧ KF k0 o'.2 f c)) (ha : ∀ o b, Q' o b → z_r k0 (kk (-1, o)) (l b) Q) : z_r k0 (x.bind kk) (z_eb y' l) Q := by
  intro o r hx hy
  cases x with
  | none => cases hx
  | some o1 =>
    cases y' with
    | none => cases hy
    | some r1 =>
      obtain ⟨h1, h2⟩ := h o1 r1 rfl rfl
      cases r1 with
      | inl d =>
        have hr : r = .inl d := (Option.some.inj (show some (Sum.inl d) = some r from hy)).symm
        subst hr
        obtain ⟨h3, h4⟩ := h1 d rfl
        have := hd o1 _ _ h3 h4 o hx
        exact ⟨fun d' e => by cases e; exact this, fun b e => by cases e⟩
      | inr b =>
        obtain ⟨h3, h4⟩ := h2 b rfl
        have e1 : o1 = (-1, o1.2) := Prod.ext h3 rfl
        rw [e1] at hx
        exact ha _ b h4 o r hx hy
theorem r_nK {e : α} {k : α → Option (Int32 × z_Sg)} (h : ∀ n, n = e → z_r k0 (k n) y Q) : z_r k0 (z_nm e k) y Q := h e rfl
theorem r_nM {e : α} {l : α → Option (Sum z_Dd β)} (h : ∀ n, n = e → z_r k0 x (l n) Q) : z_r k0 x (z_nm e l) Q := h e rfl
theorem r_iK {c : Prop} {d : Decidable c} {a b : Option (Int32 × z_Sg)} (h1 : c → z_r k0 a y Q) (h2 : ¬ c → z_r k0 b y Q) : z_r k0 (@ite _ c d a b) y Q := by
  by_cases h : c
  · rw [if_pos h]; exact h1 h
  · rw [if_neg h]; exact h2 h
theorem r_tK {c : Prop} {d : Decidable c} {a b : Option (Int32 × z_Sg)} (h : c) (h1 : z_r k0 a y Q) : z_r k0 (@ite _ c d a b) y Q := by rw [if_pos h]; exact h1
theorem r_fK {c : Prop} {d : Decidable c} {a b : Option (Int32 × z_Sg)} (h : ¬ c) (h1 : z_r k0 b y Q) : z_r k0 (@ite _ c d a b) y Q := by rw [if_neg h]; exact h1
theorem r_iM {c : Prop} {d : Decidable c} {a b : Option (Sum z_Dd β)} (h1 : c → z_r k0 x a Q) (h2 : ¬ c → z_r k0 x b Q) : z_r k0 x (@ite _ c d a b) Q := by
  by_cases h : c
  · rw [if_pos h]; exact h1 h
  · rw [if_neg h]; exact h2 h
theorem r_tM {c : Prop} {d : Decidable c} {a b : Option (Sum z_Dd β)} (h : c) (h1 : z_r k0 x a Q) : z_r k0 x (@ite _ c d a b) Q := by rw [if_pos h]; exact h1
theorem r_fM {c : Prop} {d : Decidable c} {a b : Option (Sum z_Dd β)} (h : ¬ c) (h1 : z_r k0 x b Q) : z_r k0 x (@ite _ c d a b) Q := by rw [if_neg h]; exact h1
theorem r_0K : z_r k0 (none : Option (Int32 × z_Sg)) y Q := fun o r hx => by cases hx
theorem r_0M : z_r k0 x (none : Option (Sum z_Dd β)) Q := fun o r _ hy => by cases hy
theorem r_gK {c : Prop} {d : Decidable c} {b : Option (Int32 × z_Sg)} (h : ¬ c → z_r k0 b y Q) : z_r k0 (@ite _ c d none b) y Q := r_iK (fun _ => r_0K) h
theorem r_gM {c : Prop} {d : Decidable c} {b : Option (Sum z_Dd β)} (h : ¬ c → z_r k0 x b Q) : z_r k0 x (@ite _ c d none b) Q := r_iM (fun _ => r_0M) h
theorem r_GK {c : Prop} {d : Decidable c} {b : Option (Int32 × z_Sg)} (h : c → z_r k0 b y Q) : z_r k0 (@z_gd _ c d b) y Q := by unfold z_gd; exact r_iK h (fun _ => r_0K)
theorem r_GM {c : Prop} {d : Decidable c} {b : Option (Sum z_Dd β)} (h : c → z_r k0 x b Q) : z_r k0 x (@z_gd _ c d b) Q := by unfold z_gd; exact r_iM h (fun _ => r_0M)
theorem r_pK {z : Option α} {k : α → Option (Int32 × z_Sg)} {R : α → Prop} (hz : z_po z R) (h : ∀ a, R a → z_r k0 (k a) y Q) : z_r k0 (z.bind k) y Q := by
  cases z with
  | none => exact r_0K
  | some a => exact h a (hz a rfl)
theorem r_pM {z : Option α} {l : α → Option (Sum z_Dd β)} {R : α → Prop} (hz : z_po z R) (h : ∀ a, R a → z_r k0 x (l a) Q) : z_r k0 x (z.bind l) Q := by
  cases z with
  | none => exact r_0M
  | some a => exact h a (hz a rfl)
theorem r_p {z : Option α} {z' : Option γ} {k : α → Option (Int32 × z_Sg)} {l : γ → Option (Sum z_Dd β)} {R : α → γ → Prop} (hz : z_po z (fun a => z_po z' (R a))) (h : ∀ a b, R a b → z_r k0 (k a) (l b) Q) : z_r k0 (z.bind k) (z'.bind l) Q := by
  cases z with
  | none => exact r_0K
  | some a =>
    cases z' with
    | none => exact r_0M
    | some b => exact h a b (hz a rfl b rfl)
theorem r_s {o : z_Sg} {b : β} (h : Q o b) : z_r k0 (some (-1, o)) (some (.inr b)) Q := by
  intro o' r hx hy
  cases hx
  cases hy
  exact ⟨fun d e => (by cases e), fun b' e => (by cases e; exact ⟨rfl, h⟩)⟩
theorem r_no {w : Int32} {o : z_Sg} {d : z_Dd} (hw : ¬ w = -1) (h : KF k0 o d.2.1 d.2.2) : z_r k0 (some (w, o)) (some (.inl d)) Q := by
  intro o' r hx hy
  cases hx
  cases hy
  exact ⟨fun d' e => (by cases e; exact ⟨hw, h⟩), fun b e => (by cases e)⟩
theorem r_w {Q' : z_Sg → β → Prop} (h : z_r k0 x y Q') (hw : ∀ o b, Q' o b → Q o b) : z_r k0 x y Q := fun o r hx hy => ⟨(h o r hx hy).1, fun b e => ⟨((h o r hx hy).2 b e).1, hw _ _ ((h o r hx hy).2 b e).2⟩⟩
theorem r_k {k1 : z_Sg} (h : z_r k1 x y Q) (hk : ∀ o f c, KF k1 o f c → KF k0 o f c) : z_r k0 x y Q := fun o r hx hy => ⟨fun d e => ⟨((h o r hx hy).1 d e).1, hk _ _ _ ((h o r hx hy).1 d e).2⟩, (h o r hx hy).2⟩
end Zz_r
