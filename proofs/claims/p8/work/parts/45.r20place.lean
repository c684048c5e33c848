theorem b_mod : ∀ n, n < 256 → (nI n >>> ((6 : Int32) &&& 31)) = nI (n / 64) ∧ ((nI n >>> ((3 : Int32) &&& 31)) &&& (7 : Int32)) = nI (n / 8 % 8) ∧ (nI n &&& (7 : Int32)) = nI (n % 8) ∧ nI n / (64 : Int32) = nI (n / 64) ∧ (nI n / (8 : Int32)) - (((nI n / (8 : Int32)) / (8 : Int32)) * (8 : Int32)) = nI (n / 8 % 8) ∧ nI n - ((nI n / (8 : Int32)) * (8 : Int32)) = nI (n % 8) := by decide +kernel
theorem DR_fr {k m k' m' : z_Sg} (h : DR k m) {Lk Ik Mk Nk Lm Im Mm Nm : List Nat} (fk : fr Lk Ik Mk Nk k k') (fm : fr Lm Im Mm Nm m m') (h1 : ∀ j ∈ Lk, 7 ≤ j) (h2 : ∀ j ∈ Ik, 7 ≤ j ∧ j ≠ 10) (h3 : ∀ j ∈ Mk, 2 ≤ j) (h4 : ∀ j ∈ Lm, 6 ≤ j) (h5 : ∀ j ∈ Im, j = 1 ∨ (7 ≤ j ∧ j ≠ 10 ∧ j ≠ 11 ∧ j ≠ 16)) (h6 : ∀ j ∈ Mm, 1 ≤ j) (h7 : ∀ j ∈ Nm, 2 ≤ j) : DR k' m' := by
  obtain ⟨⟨s0, s1, s2, s3, s4, s5, s6, s7, s8, s9, s10⟩, ha, hw, ⟨c, hc, e1, e2, hf⟩, g6, g10, g5, gb⟩ := h
  have kl : ∀ j, j < 7 → z_gL k' j = z_gL k j := fun j hj => fr_L fk j (fun x => by have := h1 j x; omega)
  have ki : ∀ j, (j < 7 ∨ j = 10) → z_gI k' j = z_gI k j := fun j hj => fr_I fk j (fun x => by have := h2 j x; omega)
  have km : ∀ j, j < 2 → z_gM k' j = z_gM k j := fun j hj => fr_M fk j (fun x => by have := h3 j x; omega)
  have ml : ∀ j, j < 6 → z_gL m' j = z_gL m j := fun j hj => fr_L fm j (fun x => by have := h4 j x; omega)
  have mi : ∀ j, (j = 0 ∨ (2 ≤ j ∧ j < 7) ∨ j = 10 ∨ j = 11 ∨ j = 16) → z_gI m' j = z_gI m j := fun j hj => fr_I fm j (fun x => by have := h5 j x; omega)
  have mm : z_gM m' 0 = z_gM m 0 := fr_M fm 0 (fun x => by have := h6 0 x; omega)
  have mn : ∀ j, j < 2 → z_gN m' j = z_gN m j := fun j hj => fr_N fm j (fun x => by have := h7 j x; omega)
  refine ⟨⟨?_, ?_, ?_, ?_, ?_, ?_, ?_, ?_, ?_, ?_, ?_⟩, ?_, ?_, ⟨c, hc, ?_, ?_, fun x => ?_⟩, ?_, ?_, ?_, ?_⟩
  · rw [km 0 (by omega), mm]; exact s0
  · rw [kl 0 (by omega), ml 0 (by omega)]; exact s1
  · rw [kl 1 (by omega), ml 1 (by omega)]; exact s2
  · rw [kl 2 (by omega), ml 2 (by omega)]; exact s3
  · rw [kl 3 (by omega), ml 3 (by omega)]; exact s4
  · rw [kl 4 (by omega), ml 4 (by omega)]; exact s5
  · rw [kl 5 (by omega), ml 5 (by omega)]; exact s6
  · rw [ki 1 (by omega), mi 0 (by omega)]; exact s7
  · rw [ki 2 (by omega), mi 2 (by omega)]; exact s8
  · rw [ki 0 (by omega), mn 1 (by omega)]; exact s9
  · rw [km 1 (by omega), mn 0 (by omega)]; exact s10
  · rw [mi 4 (by omega)]; exact ha
  · rw [mi 5 (by omega)]; exact hw
  · rw [ki 3 (by omega)]; exact e1
  · rw [mi 6 (by omega)]; exact e2
  · have := hf x
    rw [loc_mk] at this ⊢
    rw [kl 0 (by omega), kl 6 (by omega), km 1 (by omega), kl 1 (by omega), ki 2 (by omega)]
    exact this
  · rw [ki 6 (by omega), mi 10 (by omega)]; exact g6
  · rw [ki 10 (by omega), mi 11 (by omega)]; exact g10
  · rw [ki 5 (by omega), mi 16 (by omega)]; exact g5
  · rw [ki 5 (by omega)]; exact gb
def MR (k m : z_Sg) : Prop := ∃ n, n < 256 ∧ z_gI k 12 = nI (n / 64) ∧ z_gI m 7 = nI (n / 64) ∧ z_gI k 13 = nI (n / 8 % 8) ∧ z_gI m 8 = nI (n / 8 % 8) ∧ z_gI k 14 = nI (n % 8) ∧ z_gI m 9 = nI (n % 8)
def MQr (k m k' m' : z_Sg) : Prop := DR k' m' ∧ fr [6, 7] [3, 4, 12, 13, 14] [] [] k k' ∧ fr [] [1, 6, 7, 8, 9] [3] [] m m' ∧ MR k' m'
theorem mod_b {γ : Type} {k0 k m : z_Sg} (hk : ∃ f c, KF k0 k f c) (h : DR k m) {kk : Int32 × z_Sg → Option (Int32 × z_Sg)} {l : z_Sg → Option (Sum z_Dd γ)} {Q : z_Sg → γ → Prop} (hd : ∀ o f c, ¬ o.1 = -1 → KF k0 o.2 f c → z_po (kk o) (fun o' => ¬ o'.1 = -1 ∧ KF k0 o'.2 f c)) (ha : ∀ k' m', MQr k m k' m' → (∃ f c, KF k0 k' f c) → z_r k0 ((f_De_isToldWithModrm k').bind (fun t => kk (if t = 0 then 6 else -1, k'))) (l m') Q) : z_r k0 ((f_De_fetchModrm k).bind kk) (z_eb (e_f_Mo_takeMod m) l) Q := by
  have hK : (f_De_fetchModrm k).bind kk = (f_De_fetch k).bind (fun r1 => if r1.1 = (-1 : Int32) then (f_De_isToldWithModrm (z_sI (z_sI (z_sI r1.2 12 ((z_gI r1.2 4) >>> ((6 : Int32) &&& 31))) 13 (((z_gI r1.2 4) >>> ((3 : Int32) &&& 31)) &&& (7 : Int32))) 14 ((z_gI r1.2 4) &&& (7 : Int32)))).bind (fun t => kk (if t = 0 then 6 else -1, z_sI (z_sI (z_sI r1.2 12 ((z_gI r1.2 4) >>> ((6 : Int32) &&& 31))) 13 (((z_gI r1.2 4) >>> ((3 : Int32) &&& 31)) &&& (7 : Int32))) 14 ((z_gI r1.2 4) &&& (7 : Int32)))) else kk (r1.1, r1.2)) := by
    unfold f_De_fetchModrm k_De_fetchModrm_60
    cases f_De_fetch k with
    | none => rfl
    | some r1 =>
      rw [po_bs2, po_bs2]
      by_cases h1 : r1.1 = -1
      · rw [if_pos h1, if_pos h1]
        rw [po_nm2, po_nm2, po_nm2]
        show (Option.bind (f_De_isToldWithModrm (z_sI (z_sI (z_sI r1.2 12 ((z_gI r1.2 4) >>> ((6 : Int32) &&& 31))) 13 (((z_gI r1.2 4) >>> ((3 : Int32) &&& 31)) &&& (7 : Int32))) 14 ((z_gI r1.2 4) &&& (7 : Int32)))) _).bind kk = _
        cases f_De_isToldWithModrm (z_sI (z_sI (z_sI r1.2 12 ((z_gI r1.2 4) >>> ((6 : Int32) &&& 31))) 13 (((z_gI r1.2 4) >>> ((3 : Int32) &&& 31)) &&& (7 : Int32))) 14 ((z_gI r1.2 4) &&& (7 : Int32))) with
        | none => rfl
        | some t =>
          rw [po_bs2, po_bs2]
          by_cases ht : t = 0
          · rw [if_pos ht, if_pos ht]; rfl
          · rw [if_neg ht, if_neg ht]; rfl
      · rw [if_neg h1, if_neg h1, po_bs2]
  have hM : z_eb (e_f_Mo_takeMod m) l = z_eb (e_f_Mo_fetch m) (fun r1 => l (z_sI (z_sI (z_sI r1.2 7 (r1.1 / (64 : Int32))) 8 ((r1.1 / (8 : Int32)) - (((r1.1 / (8 : Int32)) / (8 : Int32)) * (8 : Int32)))) 9 (r1.1 - ((r1.1 / (8 : Int32)) * (8 : Int32))))) := by
    unfold e_f_Mo_takeMod
    cases e_f_Mo_fetch m with
    | none => rfl
    | some r =>
      cases r with
      | inl d => rfl
      | inr b => rfl
  rw [hK, hM]
  refine fetch_b hk h (fun o f c g1 g2 => ?_) (fun k' b hb hk' => ?_)
  · refine po_f g1 ?_
    exact hd o f c g1 g2
  · refine r_tK rfl ?_
    obtain ⟨fk', fm'⟩ := FQ_fr hb
    obtain ⟨f, x, c, g1, g2, g3, g4, g5, g6⟩ := hb
    obtain ⟨n, hn, en⟩ := byte_N g6
    obtain ⟨b1, b2, b3, b4, b5, b6⟩ := b_mod n hn
    have el : z_gI k' 4 = nI n := by rw [g3]; exact en
    show z_r k0 ((f_De_isToldWithModrm (z_sI (z_sI (z_sI k' 12 ((z_gI k' 4) >>> ((6 : Int32) &&& 31))) 13 (((z_gI k' 4) >>> ((3 : Int32) &&& 31)) &&& (7 : Int32))) 14 ((z_gI k' 4) &&& (7 : Int32)))).bind _) _ Q
    rw [el, en, b1, b2, b3, b4, b5, b6]
    have fk2 : fr [6, 7] [3, 4, 12, 13, 14] [] [] k (z_sI (z_sI (z_sI k' 12 (nI (n / 64))) 13 (nI (n / 8 % 8))) 14 (nI (n % 8))) := fr_sI (fr_sI (fr_sI (fr_w fk' (by decide) (by decide) (by decide) (by decide)) (by decide)) (by decide)) (by decide)
    have fm2 : fr [] [1, 6, 7, 8, 9] [3] [] m (z_sI (z_sI (z_sI b.2 7 (nI (n / 64))) 8 (nI (n / 8 % 8))) 9 (nI (n % 8))) := fr_sI (fr_sI (fr_sI (fr_w fm' (by decide) (by decide) (by decide) (by decide)) (by decide)) (by decide)) (by decide)
    refine ha _ _ ⟨?_, fk2, fm2, n, hn, rfl, rfl, rfl, rfl, rfl, rfl⟩ ?_
    · exact DR_fr g5 (Lk := []) (Ik := [12, 13, 14]) (Mk := []) (Nk := []) (Lm := []) (Im := [7, 8, 9]) (Mm := []) (Nm := []) (fr_sI (fr_sI (fr_sI fr_0 (by decide)) (by decide)) (by decide)) (fr_sI (fr_sI (fr_sI fr_0 (by decide)) (by decide)) (by decide)) (by decide) (by decide) (by decide) (by decide) (by decide) (by decide) (by decide)
    · obtain ⟨f0, c0, hk0⟩ := hk'
      exact ⟨f0, c0, hk0⟩
