theorem po_bs2 {α β : Type} (a : α) (k : α → Option β) : (some a).bind k = k a := rfl
theorem po_nm2 {α β : Type} (a : α) (k : α → Option β) : z_nm a k = k a := rfl
def nxR (x y : Option Int64) : Prop := ∀ a, x = some a → ¬ a < 0 → y = some (a + 1) ∧ ¬ (a + 1) < 0
theorem mr_neg (how u : Int32) (c : Nat) (hc : c ∈ ([0, 1, 9] : List Nat)) : mrL (lN c) how u < 0 := (mr_rel how u c hc).1
theorem nx_ref {q : z_Sg} {how : Int32} {y : Option Int64} {c : Int64} (h : ∃ n ∈ ([0, 1, 9] : List Nat), c = lN n) : nxR ((f_Pa_refused c how q).bind (fun r => some r)) y := by
  obtain ⟨n, hn, rfl⟩ := h
  rw [K_refused]
  intro a ha h0
  have e : mrL (lN n) how (z_gI q 2) = a := Option.some.inj (show some (mrL (lN n) how (z_gI q 2)) = some a from ha)
  rw [← e] at h0
  exact absurd (mr_neg how _ n hn) h0
theorem nx_add {n k : Nat} (hn : n < 2 ^ 64) (hk : k = 12 ∨ k = 21) {e m r : Int64} (hm : ∀ i, i < k → tb m i = false) (hr : r = lN (2 ^ k - 1)) (h1 : (n + 1) % 4096 ≠ 0) : ((e &&& m) ||| (lN n &&& r)) + 1 = (e &&& m) ||| (lN (n + 1) &&& r) := by
  obtain ⟨T, hT, eT⟩ := wb_of (e &&& m)
  have hd : ∀ x, ∀ i, i < 64 → tb (e &&& m) i = true → tb (lN x &&& r) i = false := by
    intro x i hi h
    rw [hr, tb_and, tb_msk _ (by omega)]
    by_cases h2 : i < k
    · rw [tb_and, hm i h2] at h; simp at h
    · rw [decide_eq_false h2]; simp
  have hk64 : k < 64 := by omega
  have hn1 : n + 1 < 2 ^ 64 := by
    rcases Nat.lt_or_ge (n + 1) (2 ^ 64) with h | h
    · exact h
    · exfalso
      have : n + 1 = 2 ^ 64 := by omega
      rw [this] at h1
      exact h1 (by decide)
  rw [← tb_add (hd n), ← tb_add (hd (n + 1)), hr, wb_mask hn hk64, wb_mask hn1 hk64, Int64.add_assoc, show (1 : Int64) = lN 1 from rfl, lN_add]
  congr 2
  rcases hk with rfl | rfl <;> omega
theorem nx_idx {n sh : Nat} (hn : n < 2 ^ 64) (h1 : (n + 1) % 4096 ≠ 0) (hs : sh = 12 ∨ sh = 21 ∨ sh = 30 ∨ sh = 39) : (z_lushr (lN (n + 1)) (nI sh)) &&& 511 = (z_lushr (lN n) (nI sh)) &&& 511 := by
  have hn1 : n + 1 < 2 ^ 64 := by
    rcases Nat.lt_or_ge (n + 1) (2 ^ 64) with h | h
    · exact h
    · exfalso
      have : n + 1 = 2 ^ 64 := by omega
      rw [this] at h1
      exact h1 (by decide)
  have h64 : sh < 64 := by omega
  rw [z_lushr_N hn1 h64, z_lushr_N hn h64]
  have : (n + 1) / 2 ^ sh = n / 2 ^ sh := by
    rcases hs with rfl | rfl | rfl | rfl <;> omega
  rw [this]
theorem nx_193 {n k : Nat} (hn : n < 2 ^ 64) (hk : k = 12 ∨ k = 21) {e m r ev an : Int64} {how : Int32} {q : z_Sg} (h63 : tb m 63 = false) (r63 : tb r 63 = false) (hm : ∀ i, i < k → tb m i = false) (hr : r = lN (2 ^ k - 1)) (h1 : (n + 1) % 4096 ≠ 0) : nxR (k_Pa_locate_193 (lN n) how (e &&& m) ev an r q) (k_Pa_locate_193 (lN (n + 1)) how (e &&& m) ev an r q) := by
  unfold k_Pa_locate_193
  cases f_Pa_isForbidden ev an how q with
  | none => intro a ha; cases ha
  | some t =>
    show nxR (if t = 0 then some ((e &&& m) ||| (lN n &&& r)) else (f_Pa_refused 1 how q).bind (fun r7 => some r7)) (if t = 0 then some ((e &&& m) ||| (lN (n + 1) &&& r)) else _)
    by_cases ht : t = 0
    · rw [if_pos ht, if_pos ht]
      intro a ha _
      cases ha
      rw [nx_add hn hk hm hr h1]
      exact ⟨rfl, or_ge0 h63 r63⟩
    · rw [if_neg ht, if_neg ht]
      exact nx_ref ⟨1, by decide, rfl⟩
theorem nx_loop {n : Nat} (hn : n < 2 ^ 64) (h1 : (n + 1) % 4096 ≠ 0) (how : Int32) (q : z_Sg) : ∀ (f : Nat) (e ev an : Int64) (sh : Nat), (sh = 3 ∨ sh = 12 ∨ sh = 21 ∨ sh = 30 ∨ sh = 39) → nxR (z_lo (z_FKf q) f (lN n, how, e &&& 4503599627366400, ev, an, 4095, nI sh)) (z_lo (z_FKf q) f (lN (n + 1), how, e &&& 4503599627366400, ev, an, 4095, nI sh)) := by
  have c12 : ∀ i, i < 12 → tb 4503599627366400 i = false := by decide +kernel
  have c21 : ∀ i, i < 21 → tb 4503599625273344 i = false := by decide +kernel
  intro f
  induction f with
  | zero => intro e ev an sh _ a ha; cases ha
  | succ f ih =>
    intro e ev an sh hs
    show nxR (kb_Pa_locate_41 (z_lo (z_FKf q) f) (lN n) how (e &&& 4503599627366400) ev an 4095 (nI sh) q) (kb_Pa_locate_41 (z_lo (z_FKf q) f) (lN (n + 1)) how (e &&& 4503599627366400) ev an 4095 (nI sh) q)
    unfold kb_Pa_locate_41
    by_cases h3 : sh = 3
    · subst h3
      rw [if_pos (by decide), if_pos (by decide)]
      exact nx_193 hn (Or.inl rfl) (by decide +kernel) (by decide +kernel) c12 rfl h1
    · have hs' : sh = 12 ∨ sh = 21 ∨ sh = 30 ∨ sh = 39 := by omega
      have hlt : ¬ (nI sh < 12) := by rcases hs' with rfl | rfl | rfl | rfl <;> decide
      rw [if_neg hlt, if_neg hlt]
      show nxR (if _ then _ else _) (if _ then _ else _)
      rw [nx_idx hn h1 hs']
      have h86 : ∀ E : Int64, nxR (k_Pa_locate_86 (z_lo (z_FKf q) f) (lN n) how ev an 4095 (nI sh) E q) (k_Pa_locate_86 (z_lo (z_FKf q) f) (lN (n + 1)) how ev an 4095 (nI sh) E q) := by
        intro E
        unfold k_Pa_locate_86
        show nxR (if E &&& 1 = 0 then _ else _) (if E &&& 1 = 0 then _ else _)
        by_cases hp : E &&& 1 = 0
        · rw [if_pos hp, if_pos hp]; exact nx_ref ⟨0, by decide, rfl⟩
        · rw [if_neg hp, if_neg hp]
          have h187 : nxR (k_Pa_locate_187 (z_lo (z_FKf q) f) (lN n) how (E &&& 4503599627366400) (ev &&& E) (an ||| E) 4095 (nI sh) q) (k_Pa_locate_187 (z_lo (z_FKf q) f) (lN (n + 1)) how (E &&& 4503599627366400) (ev &&& E) (an ||| E) 4095 (nI sh) q) := by
            unfold k_Pa_locate_187
            have e9 : nI sh + (-9 : Int32) = nI (sh - 9) := by rcases hs' with rfl | rfl | rfl | rfl <;> decide
            show nxR (z_lo (z_FKf q) f (lN n, how, E &&& 4503599627366400, ev &&& E, an ||| E, 4095, nI sh + (-9 : Int32))) (z_lo (z_FKf q) f (lN (n + 1), how, E &&& 4503599627366400, ev &&& E, an ||| E, 4095, nI sh + (-9 : Int32)))
            rw [e9]
            exact ih E _ _ (sh - 9) (by omega)
          show nxR (if nI sh ≤ 12 then _ else _) (if nI sh ≤ 12 then _ else _)
          by_cases h12 : nI sh ≤ 12
          · rw [if_pos h12, if_pos h12]; exact h187
          · rw [if_neg h12, if_neg h12]
            by_cases hl : E &&& 128 = 0
            · rw [if_pos hl, if_pos hl]; exact h187
            · rw [if_neg hl, if_neg hl]
              by_cases h21 : (21 : Int32) < nI sh
              · rw [if_pos h21, if_pos h21]; exact nx_ref ⟨9, by decide, rfl⟩
              · rw [if_neg h21, if_neg h21]
                by_cases hr : E &&& 2088960 = 0
                · rw [if_pos hr, if_pos hr]
                  exact nx_193 hn (Or.inr rfl) (by decide +kernel) (by decide +kernel) c21 rfl h1
                · rw [if_neg hr, if_neg hr]; exact nx_ref ⟨9, by decide, rfl⟩
      split
      · exact h86 0
      · split
        · intro a ha; cases ha
        · exact h86 _
theorem loc_next {q : z_Sg} {p a : Int64} {how : Int32} (h : f_Pa_locate p how q = some a) (h0 : ¬ a < 0) (h1 : ¬ (p + 1) &&& 4095 = 0) : f_Pa_locate (p + 1) how q = some (a + 1) ∧ ¬ (a + 1) < 0 := by
  obtain ⟨n, hn, rfl⟩ := wb_of p
  have e1 : lN n + 1 = lN (n + 1) := by rw [show (1 : Int64) = lN 1 from rfl, lN_add]
  rw [e1] at h1 ⊢
  have hn1 : n + 1 < 2 ^ 64 := by
    rcases Nat.lt_or_ge (n + 1) (2 ^ 64) with h | h
    · exact h
    · exfalso
      have : n + 1 = 2 ^ 64 := by omega
      rw [this] at h1
      exact h1 (by decide +kernel)
  have hm : (n + 1) % 4096 ≠ 0 := by
    intro hh
    apply h1
    rw [show (4095 : Int64) = lN (2 ^ 12 - 1) from rfl, wb_mask hn1 (by decide), show (2 : Nat) ^ 12 = 4096 from rfl, hh]
    rfl
  unfold f_Pa_locate at h ⊢
  rw [p_Pa_isWrong hn] at h
  rw [p_Pa_isWrong hn1]
  have ew : z_wI (n + 1) = z_wI n := by
    by_cases hw : z_wr n
    · rw [z_wI_pos hw, z_wI_pos]
      unfold z_wr at hw ⊢
      omega
    · rw [z_wI_neg hw, z_wI_neg]
      unfold z_wr at hw ⊢
      omega
  rw [ew]
  rw [po_bs2] at h ⊢
  by_cases hz : z_wI n = 0
  · rw [if_pos hz, po_nm2] at h
    rw [if_pos hz, po_nm2]
    unfold k_Pa_locate_41 at h ⊢
    have key := nx_loop hn hm how q 2000 (z_gL q 1) (-1) 0 39 (by decide) a
    rw [show nI 39 = (39 : Int32) from rfl] at key
    exact key h h0
  · rw [if_neg hz] at h
    have e := Option.some.inj h
    rw [← e] at h0
    exact absurd (by decide) h0
