theorem z_ofL {L : Nat} (hL : L ≤ 2048) : y_in (Int32.ofNat L) L L := by
  have e : (Int32.ofNat L).toInt = L := Int32.toInt_ofNat_of_lt (by omega)
  exact ⟨by rw [e]; exact Int.le_refl _, by rw [e]; exact Int.le_refl _⟩
def z_R (a b : z_Sg) : Prop := Sim a b ∧ (iK a ∧ iM 16 z_Z b)
theorem z_I0 : iK z_0K ∧ iM 16 z_Z z_0M := by
  have a0 : ∀ a b : Int, a ≤ 0 → 0 ≤ b → y_in (0 : Int32) a b := fun a b h1 h2 => ⟨h1, h2⟩
  refine ⟨?_, ?_⟩
  · unfold iK
    refine ⟨?_, ?_, ?_, ?_, ?_, ?_, ?_, ?_, ?_, ?_, ?_, ?_, ?_, ?_, ?_, ?_, ?_⟩ <;> exact a0 _ _ (by decide) (by decide)
  · exact ⟨a0 _ _ (by decide) (by decide), a0 _ _ (by decide) (by decide), a0 _ _ (by decide) (by decide), a0 _ _ (by decide) (by decide), (show y_in (-1 : Int32) (-1) 14 from ⟨by decide, by decide⟩), a0 _ _ (by decide) (by decide), a0 _ _ (by decide) (by decide), a0 _ _ (by decide) (by decide), a0 _ _ (by decide) (by decide), a0 _ _ (by decide) (by decide), a0 _ _ (by decide) (by decide), a0 _ _ (by decide) (by decide), a0 _ _ (by decide) (by decide), a0 _ _ (by decide) (by decide), a0 _ _ (by decide) (by decide), a0 _ _ (by decide) (by decide), a0 _ _ (by decide) (by decide), a0 _ _ (by decide) (by decide), (fun _ => a0 _ _ (by decide) (by decide)), (fun _ => a0 _ _ (by decide) (by decide)), (fun _ => (by decide : (0 : Int) ≤ (0 : Int64).toInt)), a0 _ _ (by decide) (by decide), z_k0 _⟩
theorem z_S0 : Sim z_0K z_0M := by
  refine ⟨fun i hi => rfl, rfl, rfl, rfl, rfl, rfl, rfl, rfl, rfl, rfl, fun y => ?_⟩
  by_cases cy : y < 0 ∨ ¬ y < 32768
  · rw [kB_hi cy, mB_hi cy]
  · obtain ⟨u, hu, eu⟩ := z_inn cy
    rw [eu, mB_lt hu]
    refine tI_ext (fun b hb => ?_)
    rw [kB_lt hu b]
    show (decide (b < 8) && tb (0 : Int64) (8 * (u % 8) + b)) = tI ((0 : Int32) &&& 255) b
    rw [tb_0, tI_and, tI_0, Bool.and_false, Bool.false_and]
theorem z_R0 : z_R z_0K z_0M := ⟨z_S0, z_I0⟩
theorem z_FB {q : z_Sg} (hq : iM 16 z_Z q) : FB q := by
  intro j
  obtain ⟨a1, a2⟩ := iM_n1 hq j
  have : (z_gN q 1 j).toInt = 0 ∨ (z_gN q 1 j).toInt = 1 := by omega
  rcases this with e | e
  · exact Or.inl (Int32.toInt_inj.mp (by rw [e]; rfl))
  · exact Or.inr (Int32.toInt_inj.mp (by rw [e]; rfl))
theorem l_store (a b c : Int32) {q1 q2 : z_Sg} (h : z_R q1 q2) : z_ok (f_Co_store a b c q1) (fun o => z_ok (f_Mo_store a b c q2) (fun o' => True ∧ z_R o.2 o'.2)) := by
  obtain ⟨x, e, hx⟩ := t_f_Co_store a b c q1 h.2.1
  obtain ⟨y, e', hy⟩ := t_f_Mo_store 16 z_Z a b c q2 h.2.2 (by decide)
  have r := store_r h.1 a b c e y e'
  exact ⟨x, e, y, e', trivial, r.2, hx.1, hy.1⟩
theorem l_stored (a : Int32) {q1 q2 : z_Sg} (h : z_R q1 q2) : z_ok (f_Co_stored a q1) (fun o => z_ok (f_Mo_stored a q2) (fun o' => True ∧ z_R q1 q2)) := by
  obtain ⟨x, e, hx⟩ := t_f_Co_stored a q1 h.2.1
  obtain ⟨y, e', hy⟩ := t_f_Mo_stored 16 z_Z a q2 h.2.2 (by decide)
  have r := trivial
  exact ⟨x, e, y, e', trivial, h.1, h.2.1, h.2.2⟩
theorem l_set (a b c : Int32) {q1 q2 : z_Sg} (h : z_R q1 q2) : z_ok (f_Co_set a b c q1) (fun o => z_ok (f_Mo_set a b c q2) (fun o' => True ∧ z_R o.2 o'.2)) := by
  obtain ⟨x, e, hx⟩ := t_f_Co_set a b c q1 h.2.1
  obtain ⟨y, e', hy⟩ := t_f_Mo_set 16 z_Z a b c q2 h.2.2 (by decide)
  have r := set_r h.1 a b c e y e'
  exact ⟨x, e, y, e', trivial, r.2, hx.1, hy.1⟩
theorem l_get (a : Int32) {q1 q2 : z_Sg} (h : z_R q1 q2) : z_ok (f_Co_get a q1) (fun o => z_ok (f_Mo_get a q2) (fun o' => True ∧ z_R q1 q2)) := by
  obtain ⟨x, e, hx⟩ := t_f_Co_get a q1 h.2.1
  obtain ⟨y, e', hy⟩ := t_f_Mo_get 16 z_Z a q2 h.2.2 (by decide)
  have r := trivial
  exact ⟨x, e, y, e', trivial, h.1, h.2.1, h.2.2⟩
theorem l_step {q1 q2 : z_Sg} (h : z_R q1 q2) : z_ok (f_Co_step  q1) (fun o => z_ok (f_Mo_step  q2) (fun o' => True ∧ z_R o.2 o'.2)) := by
  obtain ⟨x, e, hx⟩ := t_f_Co_step  q1 h.2.1
  obtain ⟨y, e', hy⟩ := t_f_Mo_step  q2 h.2.2
  have r := step_po h.1 (z_FB h.2.2) e y e'
  exact ⟨x, e, y, e', trivial, r.1, hx.1, hy.1⟩
theorem l_run (a : Int32) {q1 q2 : z_Sg} (h : z_R q1 q2) : z_ok (f_Co_run a q1) (fun o => z_ok (f_Mo_run a q2) (fun o' => o.1 = o'.1 ∧ z_R o.2 o'.2)) := by
  obtain ⟨x, e, hx⟩ := t_f_Co_run a q1 h.2.1
  obtain ⟨y, e', hy⟩ := t_f_Mo_run a q2 h.2.2
  have r := run_r h.1 h.2.1 h.2.2 a e y e'
  exact ⟨x, e, y, e', r.1, r.2, hx.1, hy⟩
theorem l_look (a b c : Int32) {q1 q2 : z_Sg} (h : z_R q1 q2) : z_ok (f_Co_look a b c q1) (fun o => z_ok (f_Mo_look a b c q2) (fun o' => True ∧ z_R q1 o'.2)) := by
  obtain ⟨x, e, hx⟩ := t_f_Co_look a b c q1 h.2.1
  obtain ⟨y, e', hy⟩ := t_f_Mo_look 16 z_Z a b c q2 h.2.2 (by decide)
  have r := look_r h.1 a b c e y e'
  exact ⟨x, e, y, e', trivial, r.2, h.2.1, hy⟩
theorem l_lev {t : Int32} {q1 q2 : z_Sg} (h : z_R q1 q2) (ht : y_in t 0 1) : z_ok (f_Co_level t q1) (fun o => z_ok (f_Mo_level t q2) (fun o' => z_R o o')) := by
  obtain ⟨x, e, hx⟩ := t_f_Co_level t q1 ht h.2.1
  obtain ⟨y, e', hy⟩ := t_f_Mo_level 16 z_Z t q2 ht h.2.2 (by decide)
  exact ⟨x, e, y, e', level_r h.1 t e y e', hx, hy⟩
theorem p_law {xs : Nat → Int32} {L : Nat} (hL : L ≤ 2048) : k_law_18 xs L 0 (z_0K, z_0M) = some 1 := by
  have key : z_ok (k_law_18 xs L 0 (z_0K, z_0M)) (fun o : Int32 => o = 1) := by
    unfold k_law_18
    refine z_ok_l (fun a : Int32 × (z_Sg × z_Sg) => y_in a.1 0 2048 ∧ z_R a.2.1 a.2.2) (fun a => ((2048 - a.1.toInt) / 4).toNat) ?_ (0, (z_0K, z_0M)) ⟨(show y_in (0 : Int32) 0 2048 from ⟨by decide, by decide⟩), z_R0⟩ (by show ((2048 - (0 : Int32).toInt) / 4).toNat < 2000; decide)
    rintro ih ⟨x3, q1, q2⟩ ⟨h0, hR⟩ hih
    dsimp only at h0 hR ⊢
    have hLi : y_in (Int32.ofNat L) L L := z_ofL hL
    unfold kb_law_18
    refine z_ok_i (fun _ => z_ok_s rfl) (fun c => ?_)
    have h3 : y_in x3 0 (L - 4) := z_nlt2 c (z_sub hLi (show y_in (4 : Int32) 4 4 from ⟨by decide, by decide⟩) (by omega) (by omega)) h0
    have h3a := h3.1
    have h3b := h3.2
    have b0 : ¬ z_bad x3 L := z_nbad h3 (by omega)
    have b1 : ¬ z_bad (x3 + 1) L := z_nbad (z_w (z_add h3 (show y_in (1 : Int32) 1 1 from ⟨by decide, by decide⟩) (by omega) (by omega)) (by omega) (Int.le_refl _)) (by omega)
    have b2 : ¬ z_bad (x3 + 2) L := z_nbad (z_w (z_add h3 (show y_in (2 : Int32) 2 2 from ⟨by decide, by decide⟩) (by omega) (by omega)) (by omega) (Int.le_refl _)) (by omega)
    have b3 : ¬ z_bad (x3 + 3) L := z_nbad (z_w (z_add h3 (show y_in (3 : Int32) 3 3 from ⟨by decide, by decide⟩) (by omega) (by omega)) (by omega) (Int.le_refl _)) (by omega)
    have go : ∀ p1 p2 : z_Sg, z_R p1 p2 → z_ok (k_law_328 xs L ih x3 (p1, p2)) (fun o : Int32 => o = 1) := by
      intro p1 p2 hp
      unfold k_law_328
      refine z_ok_n (fun n e => ?_)
      have e1 : n.toInt = x3.toInt + 4 := by
        rw [e, Int32.toInt_add, show (4 : Int32).toInt = 4 from rfl]
        exact z_bmod (by omega) (by omega)
      refine hih (n, (p1, p2)) ⟨⟨by show 0 ≤ n.toInt; omega, by show n.toInt ≤ 2048; omega⟩, hp⟩ ?_
      show ((2048 - n.toInt) / 4).toNat < ((2048 - x3.toInt) / 4).toNat
      omega
    refine z_ok_g b0 ?_
    refine z_ok_i (fun _ => ?_) (fun _ => ?_)
    · refine z_ok_g b1 ?_
      refine z_ok_g b2 ?_
      refine z_ok_g b3 ?_
      refine z_ok_b (l_store _ _ _ hR) (fun r hr => ?_)
      refine z_ok_g b1 ?_
      refine z_ok_g b2 ?_
      refine z_ok_g b3 ?_
      exact z_ok_b hr (fun r2 hr2 => go _ _ hr2.2)
    refine z_ok_i (fun _ => ?_) (fun _ => ?_)
    · refine z_ok_g b1 ?_
      refine z_ok_b (l_stored _ hR) (fun r hr => ?_)
      refine z_ok_g b1 ?_
      exact z_ok_b hr (fun r2 hr2 => go _ _ hr2.2)
    refine z_ok_i (fun _ => ?_) (fun _ => ?_)
    · refine z_ok_g b1 ?_
      refine z_ok_g b2 ?_
      refine z_ok_g b3 ?_
      refine z_ok_b (l_set _ _ _ hR) (fun r hr => ?_)
      refine z_ok_g b1 ?_
      refine z_ok_g b2 ?_
      refine z_ok_g b3 ?_
      exact z_ok_b hr (fun r2 hr2 => go _ _ hr2.2)
    refine z_ok_i (fun _ => ?_) (fun _ => ?_)
    · refine z_ok_g b1 ?_
      refine z_ok_b (l_get _ hR) (fun r hr => ?_)
      refine z_ok_g b1 ?_
      exact z_ok_b hr (fun r2 hr2 => go _ _ hr2.2)
    refine z_ok_i (fun _ => ?_) (fun _ => ?_)
    · have lv : ∀ t : Int32, y_in t 0 1 → (xs (x3 + (1 : Int32)).toNatClampNeg = 0 → t = 0) → (¬ xs (x3 + (1 : Int32)).toNatClampNeg = 0 → t = 1) → z_ok (k_law_226 xs L ih x3 t (q1, q2)) (fun o : Int32 => o = 1) := by
        intro t ht t0 t1
        unfold k_law_226
        refine z_ok_b (l_lev hR ht) (fun r hr => ?_)
        refine z_ok_g b1 ?_
        have lm : ∀ u : Int32, u = t → z_ok (k_law_243 xs L ih x3 u (r, q2)) (fun o : Int32 => o = 1) := by
          intro u hu
          subst hu
          unfold k_law_243
          exact z_ok_b hr (fun r2 hr2 => go _ _ hr2)
        exact z_ok_i (fun c0 => lm 0 (t0 c0).symm) (fun c0 => lm 1 (t1 c0).symm)
      refine z_ok_g b1 ?_
      exact z_ok_i (fun c0 => lv 0 ⟨by decide, by decide⟩ (fun _ => rfl) (fun z => absurd c0 z)) (fun c0 => lv 1 ⟨by decide, by decide⟩ (fun z => absurd z c0) (fun _ => rfl))
    refine z_ok_i (fun _ => ?_) (fun _ => ?_)
    · refine z_ok_b (l_step hR) (fun r hr => ?_)
      exact z_ok_b hr (fun r2 hr2 => go _ _ hr2.2)
    refine z_ok_i (fun _ => ?_) (fun _ => ?_)
    · refine z_ok_g b1 ?_
      refine z_ok_b (l_run _ hR) (fun r hr => ?_)
      refine z_ok_g b1 ?_
      exact z_ok_b hr (fun r2 hr2 => z_ok_i (fun _ => go _ _ hr2.2) (fun c0 => absurd hr2.1 c0))
    refine z_ok_i (fun _ => ?_) (fun _ => ?_)
    · refine z_ok_g b1 ?_
      refine z_ok_g b2 ?_
      refine z_ok_g b3 ?_
      refine z_ok_b (l_look _ _ _ hR) (fun r hr => ?_)
      refine z_ok_g b1 ?_
      refine z_ok_g b2 ?_
      refine z_ok_g b3 ?_
      exact z_ok_b hr (fun r2 hr2 => go _ _ hr2.2)
    exact go _ _ hR
  obtain ⟨a, e1, e2⟩ := key
  rw [e1, e2]
