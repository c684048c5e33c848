def fr (Ls Is Ms Ns : List Nat) (q q' : z_Sg) : Prop := (∀ j, j ∉ Ls → z_gL q' j = z_gL q j) ∧ (∀ j, j ∉ Is → z_gI q' j = z_gI q j) ∧ (∀ j, j ∉ Ms → z_gM q' j = z_gM q j) ∧ (∀ j, j ∉ Ns → z_gN q' j = z_gN q j)
section Zz_fr
variable {Ls Is Ms Ns : List Nat} {q q' q'' : z_Sg}
theorem fr_0 : fr Ls Is Ms Ns q q := ⟨fun _ _ => rfl, fun _ _ => rfl, fun _ _ => rfl, fun _ _ => rfl⟩
theorem fr_t (h : fr Ls Is Ms Ns q q') (h2 : fr Ls Is Ms Ns q' q'') : fr Ls Is Ms Ns q q'' := ⟨fun j hj => (h2.1 j hj).trans (h.1 j hj), fun j hj => (h2.2.1 j hj).trans (h.2.1 j hj), fun j hj => (h2.2.2.1 j hj).trans (h.2.2.1 j hj), fun j hj => (h2.2.2.2 j hj).trans (h.2.2.2 j hj)⟩
theorem fr_w {Ls' Is' Ms' Ns' : List Nat} (h : fr Ls Is Ms Ns q q') (h1 : ∀ j ∈ Ls, j ∈ Ls') (h2 : ∀ j ∈ Is, j ∈ Is') (h3 : ∀ j ∈ Ms, j ∈ Ms') (h4 : ∀ j ∈ Ns, j ∈ Ns') : fr Ls' Is' Ms' Ns' q q' := ⟨fun j hj => h.1 j (fun x => hj (h1 j x)), fun j hj => h.2.1 j (fun x => hj (h2 j x)), fun j hj => h.2.2.1 j (fun x => hj (h3 j x)), fun j hj => h.2.2.2 j (fun x => hj (h4 j x))⟩
theorem fr_sL {k : Nat} {v : Int64} (h : fr Ls Is Ms Ns q q') (hk : k ∈ Ls) : fr Ls Is Ms Ns q (z_sL q' k v) := ⟨fun j hj => by
  show (if j = k then v else z_gL q' j) = _
  rw [if_neg (show ¬ j = k from fun e => hj (by rw [e]; exact hk))]; exact h.1 j hj, h.2.1, h.2.2.1, h.2.2.2⟩
theorem fr_sI {k : Nat} {v : Int32} (h : fr Ls Is Ms Ns q q') (hk : k ∈ Is) : fr Ls Is Ms Ns q (z_sI q' k v) := ⟨h.1, fun j hj => by
  show (if j = k then v else z_gI q' j) = _
  rw [if_neg (show ¬ j = k from fun e => hj (by rw [e]; exact hk))]; exact h.2.1 j hj, h.2.2.1, h.2.2.2⟩
theorem fr_sM {a i : Nat} {v : Int64} (h : fr Ls Is Ms Ns q q') (hk : a ∈ Ms) : fr Ls Is Ms Ns q (z_sM q' a i v) := ⟨h.1, h.2.1, fun j hj => by
  show (if j = a then vp_updL (z_gM q' a) i v else z_gM q' j) = _
  rw [if_neg (show ¬ j = a from fun e => hj (by rw [e]; exact hk))]; exact h.2.2.1 j hj, h.2.2.2⟩
theorem fr_sN {a i : Nat} {v : Int32} (h : fr Ls Is Ms Ns q q') (hk : a ∈ Ns) : fr Ls Is Ms Ns q (z_sN q' a i v) := ⟨h.1, h.2.1, h.2.2.1, fun j hj => by
  show (if j = a then upd (z_gN q' a) i v else z_gN q' j) = _
  rw [if_neg (show ¬ j = a from fun e => hj (by rw [e]; exact hk))]; exact h.2.2.2 j hj⟩
theorem fr_L (h : fr Ls Is Ms Ns q q') (j : Nat) (hj : j ∉ Ls) : z_gL q' j = z_gL q j := h.1 j hj
theorem fr_I (h : fr Ls Is Ms Ns q q') (j : Nat) (hj : j ∉ Is) : z_gI q' j = z_gI q j := h.2.1 j hj
theorem fr_M (h : fr Ls Is Ms Ns q q') (j : Nat) (hj : j ∉ Ms) : z_gM q' j = z_gM q j := h.2.2.1 j hj
theorem fr_N (h : fr Ls Is Ms Ns q q') (j : Nat) (hj : j ∉ Ns) : z_gN q' j = z_gN q j := h.2.2.2 j hj
end Zz_fr
def fK (k k' : z_Sg) : Prop := ∃ Ls Is Ms Ns, fr Ls Is Ms Ns k k' ∧ (∀ j ∈ Ls, 6 ≤ j) ∧ (∀ j ∈ Is, 3 ≤ j) ∧ (∀ j ∈ Ms, 2 ≤ j)
theorem fK_KF {k k' : z_Sg} (h : fK k k') : ∃ f c, KF k k' f c := by
  obtain ⟨Ls, Is, Ms, Ns, h, hl, hi, hm⟩ := h
  have l : ∀ j, j < 6 → z_gL k' j = z_gL k j := fun j hj => fr_L h j (fun x => by have := hl j x; omega)
  have i : ∀ j, j < 3 → z_gI k' j = z_gI k j := fun j hj => fr_I h j (fun x => by have := hi j x; omega)
  have mm : ∀ j, j < 2 → z_gM k' j = z_gM k j := fun j hj => fr_M h j (fun x => by have := hm j x; omega)
  exact ⟨z_gL k' 5, z_gI k' 1, mm 0 (by omega), mm 1 (by omega), l 0 (by omega), l 1 (by omega), l 2 (by omega), l 3 (by omega), l 4 (by omega), rfl, rfl, i 2 (by omega), i 0 (by omega)⟩
def sx (v : Int64) (n : Nat) : Int64 := z_lshr (z_lshl v (nI (64 - 8 * n))) (nI (64 - 8 * n))
theorem tb_sx (v : Int64) {n : Nat} (h1 : 1 ≤ n) (h8 : n ≤ 8) (i : Nat) (hi : i < 64) : tb (sx v n) i = if i < 8 * n then tb v i else tb v (8 * n - 1) := by
  unfold sx
  rw [tb_sshr _ _ (by omega), decide_eq_true hi, Bool.true_and]
  by_cases h : i < 8 * n
  · rw [if_pos h, if_pos (show i + (64 - 8 * n) < 64 by omega), tb_shl _ _ (by omega), decide_eq_true (by omega), decide_eq_false (by omega), show i + (64 - 8 * n) - (64 - 8 * n) = i by omega]; rfl
  · rw [if_neg h, if_neg (show ¬ i + (64 - 8 * n) < 64 by omega), tb_shl _ _ (by omega), decide_eq_true (by decide), decide_eq_false (by omega), show 63 - (64 - 8 * n) = 8 * n - 1 by omega]; rfl
theorem z_64m {n : Nat} (h1 : 1 ≤ n) (h8 : n ≤ 8) : (64 : Int32) - ((8 : Int32) * nI n) = nI (64 - 8 * n) ∧ (8 : Int32) * nI n = nI (8 * n) ∧ (8 : Int32) * nI n - 1 = nI (8 * n - 1) := by
  have : ∀ n, n ≤ 8 → 1 ≤ n → (64 : Int32) - ((8 : Int32) * nI n) = nI (64 - 8 * n) ∧ (8 : Int32) * nI n = nI (8 * n) ∧ (8 : Int32) * nI n - 1 = nI (8 * n - 1) := by decide +kernel
  exact this n h8 h1
theorem K_signed (v : Int64) {n : Nat} (h1 : 1 ≤ n) (h8 : n ≤ 8) (q : z_Sg) : f_Ar_signed v (nI n) q = some (sx v n) := by
  unfold f_Ar_signed
  rw [(z_64m h1 h8).1]
  rfl
theorem M_extended (v : Int64) {n : Nat} (h1 : 1 ≤ n) (h8 : n ≤ 8) (q : z_Sg) : f_Mo_extended v (nI n) q = some (sx v n) := by
  obtain ⟨-, e8, e7⟩ := z_64m h1 h8
  have key : ∀ (t : Int32) (mi : Bool), ((t = 0 ∧ mi = false) ∨ (t = 1 ∧ mi = true)) → mi = tb v (8 * n - 1) → k_Mo_extended_20 v (nI n) t q = some (sx v n) := by
    intro t mi ht hmi
    unfold k_Mo_extended_20
    rw [po_nm2, e8]
    unfold k_Mo_extended_30
    obtain ⟨b, hb1, hb2⟩ := z_lo_ok (F := fun ih30 (a : Int32 × Int64 × Int32) => kb_Mo_extended_30 ih30 a.1 a.2.1 a.2.2 q) (fun a => a.1 = t ∧ ∃ j, 8 * n ≤ j ∧ j ≤ 64 ∧ a.2.2 = nI j ∧ ∀ i, i < 64 → tb a.2.1 i = if 8 * n ≤ i ∧ i < j then mi else tb v i) (fun a => 64 - a.2.2.toNatClampNeg) (fun o => o = sx v n) (by
      rintro ih ⟨a1, a2, a3⟩ ⟨rfl, j, hj1, hj2, e3, hb⟩ hih
      dsimp only at e3 hb hih ⊢
      subst e3
      unfold kb_Mo_extended_30
      by_cases h64 : 64 ≤ j
      · rw [if_pos ((z_i64 (by omega)).mpr h64)]
        refine ⟨_, rfl, tb_ext (fun i hi => ?_)⟩
        rw [hb i hi, tb_sx v h1 h8 i hi]
        by_cases hh : i < 8 * n
        · rw [if_pos hh, if_neg (by omega)]
        · rw [if_neg hh, if_pos (by omega), hmi]
      · rw [if_neg (fun h => h64 ((z_i64 (by omega)).mp h))]
        have go : ∀ t0 : Int64, (∀ i, i < 64 → tb t0 i = if 8 * n ≤ i ∧ i < j + 1 then mi else tb v i) → ∃ b, k_Mo_extended_62 ih a1 (nI j) t0 q = some b ∧ b = sx v n := by
          intro t0 ht0
          unfold k_Mo_extended_62
          rw [po_nm2, nI_S]
          refine hih _ ⟨rfl, j + 1, by omega, by omega, rfl, ht0⟩ ?_
          show 64 - (nI (j + 1)).toNatClampNeg < 64 - (nI j).toNatClampNeg
          rw [z_clp (by omega), z_clp (by omega)]
          omega
        have s1 : ∀ i, i < 64 → tb (z_lshl 1 (nI j)) i = decide (i = j) := by
          intro i hi
          rw [tb_shl _ _ (by omega), tb_1, decide_eq_true hi]
          by_cases hij : i = j
          · subst hij; simp
          · rw [decide_eq_false hij]
            by_cases hlt : i < j
            · rw [decide_eq_true hlt]; simp
            · rw [decide_eq_false (show ¬ i - j < 1 by omega)]; simp
        rcases ht with ⟨t0, m0⟩ | ⟨t1, m1⟩
        · rw [if_pos t0]
          refine go _ (fun i hi => ?_)
          rw [tb_and, tb_xor, tb_m1, s1 i hi, hb i hi, decide_eq_true hi]
          by_cases hij : i = j
          · subst hij
            rw [decide_eq_true rfl, if_pos (show 8 * n ≤ i ∧ i < i + 1 by omega), m0]; simp
          · rw [decide_eq_false hij]
            by_cases h5 : 8 * n ≤ i ∧ i < j
            · rw [if_pos h5, if_pos (by omega)]; simp
            · rw [if_neg h5, if_neg (by omega)]; simp
        · have t1' : a1 = 1 := t1
          rw [if_neg (by rw [t1']; decide)]
          refine go _ (fun i hi => ?_)
          rw [tb_or, s1 i hi, hb i hi]
          by_cases hij : i = j
          · subst hij
            rw [decide_eq_true rfl, if_pos (show 8 * n ≤ i ∧ i < i + 1 by omega), m1]; simp
          · rw [decide_eq_false hij]
            by_cases h5 : 8 * n ≤ i ∧ i < j
            · rw [if_pos h5, if_pos (by omega)]; simp
            · rw [if_neg h5, if_neg (by omega)]; simp) 2000 (t, v, nI (8 * n)) ⟨rfl, 8 * n, by omega, by omega, rfl, fun i hi => by rw [if_neg (by omega)]⟩ (by show 64 - (nI (8 * n)).toNatClampNeg < 2000; omega)
    rw [hb1, hb2]
  unfold f_Mo_extended
  rw [e7]
  by_cases hm : tb v (8 * n - 1) = true
  · rw [if_pos ((tb_bit1 v (by omega)).mpr hm)]
    exact key 1 true (Or.inr ⟨rfl, rfl⟩) hm.symm
  · rw [if_neg (fun h => hm ((tb_bit1 v (by omega)).mp h))]
    exact key 0 false (Or.inl ⟨rfl, rfl⟩) (by simpa using hm)
