theorem refd_0 (x : Int64) {h : Int32} (h1 : ¬ h = 1) (h2 : ¬ h = 2) (q : z_Sg) : f_Pa_refused x h q = f_Pa_refused x 0 q := by
  unfold f_Pa_refused
  rw [if_neg h1, if_neg h2, if_neg (by decide), if_neg (by decide)]
theorem loc_0 (p : Int64) {h : Int32} (h1 : ¬ h = 1) (h2 : ¬ h = 2) (q : z_Sg) : f_Pa_locate p h q = f_Pa_locate p 0 q := by
  have fb0 : ∀ a b : Int64, f_Pa_isForbidden a b h q = f_Pa_isForbidden a b 0 q := by
    intro a b
    unfold f_Pa_isForbidden k_Pa_isForbidden_16 k_Pa_isForbidden_36
    rw [if_neg h1, if_neg h2, if_neg (show ¬ (0 : Int32) = 1 by decide), if_neg (show ¬ (0 : Int32) = 2 by decide)]
  have a193 : ∀ (x1 x4 x6 x8 x10 : Int64), k_Pa_locate_193 x1 h x4 x6 x8 x10 q = k_Pa_locate_193 x1 0 x4 x6 x8 x10 q := by
    intro x1 x4 x6 x8 x10
    unfold k_Pa_locate_193
    rw [fb0, refd_0 1 h1 h2]
  have st : ∀ (J J' : Int64 × Int32 × Int64 × Int64 × Int64 × Int64 × Int32 → Option Int64), (∀ (x1 x4 x6 x8 x10 : Int64) (x12 : Int32), J (x1, h, x4, x6, x8, x10, x12) = J' (x1, 0, x4, x6, x8, x10, x12)) → ∀ (x1 x4 x6 x8 x10 : Int64) (x12 : Int32), kb_Pa_locate_41 J x1 h x4 x6 x8 x10 x12 q = kb_Pa_locate_41 J' x1 0 x4 x6 x8 x10 x12 q := by
    intro J J' hJ x1 x4 x6 x8 x10 x12
    unfold kb_Pa_locate_41 k_Pa_locate_86 k_Pa_locate_162 k_Pa_locate_187
    simp only [a193, refd_0 _ h1 h2, z_nm, hJ]
  have key : ∀ f (x1 x4 x6 x8 x10 : Int64) (x12 : Int32), z_lo (fun ih41 (a : Int64 × Int32 × Int64 × Int64 × Int64 × Int64 × Int32) => kb_Pa_locate_41 ih41 a.1 a.2.1 a.2.2.1 a.2.2.2.1 a.2.2.2.2.1 a.2.2.2.2.2.1 a.2.2.2.2.2.2 q) f (x1, h, x4, x6, x8, x10, x12) = z_lo (fun ih41 (a : Int64 × Int32 × Int64 × Int64 × Int64 × Int64 × Int32) => kb_Pa_locate_41 ih41 a.1 a.2.1 a.2.2.1 a.2.2.2.1 a.2.2.2.2.1 a.2.2.2.2.2.1 a.2.2.2.2.2.2 q) f (x1, 0, x4, x6, x8, x10, x12) := by
    intro f
    induction f with
    | zero => intro x1 x4 x6 x8 x10 x12; rfl
    | succ f ih =>
      intro x1 x4 x6 x8 x10 x12
      exact st _ _ ih x1 x4 x6 x8 x10 x12
  unfold f_Pa_locate k_Pa_locate_41
  simp only [key]
theorem neg_sub2 (v : Int64) : (-2 : Int64) - (-2 - v) = v := by
  rw [Int64.sub_eq_add_neg, Int64.neg_sub, Int64.add_comm, Int64.sub_add_cancel]
theorem Sim_1i {k m : z_Sg} (h : Sim k m) (c : Int32) : Sim k (z_sI m 1 c) := h
theorem look_r {k m : z_Sg} (h : Sim k m) (a b c : Int32) {v : Int64} (hK : f_Co_look a b c k = some v) : z_po (f_Mo_look a b c m) (fun o => v = o.1 ∧ Sim k o.2) := by
  have hK' : f_Pa_locate ((z_lshl (a.toInt64) (32 : Int32)) ||| ((b.toInt64) &&& (4294967295 : Int64))) c k = some v := by
    have e : f_Co_look a b c k = (f_Pa_locate ((z_lshl (a.toInt64) (32 : Int32)) ||| ((b.toInt64) &&& (4294967295 : Int64))) c k).bind (fun r2 => some r2) := rfl
    rw [e] at hK
    cases x : f_Pa_locate ((z_lshl (a.toInt64) (32 : Int32)) ||| ((b.toInt64) &&& (4294967295 : Int64))) c k with
    | none => rw [x] at hK; cases hK
    | some y => rw [x] at hK; exact hK
  unfold f_Mo_look
  have ej : f_Mo_join a b m = some ((z_lshl (a.toInt64) (32 : Int32)) ||| ((b.toInt64) &&& (4294967295 : Int64))) := rfl
  rw [ej]
  generalize ((z_lshl (a.toInt64) (32 : Int32)) ||| ((b.toInt64) &&& (4294967295 : Int64))) = p at *
  refine po_bs ?_
  have go : ∀ how : Int32, f_Pa_locate p how k = some v → f_Mo_isWrong p m = some 0 → z_po (k_Mo_look_41 p how m) (fun o => v = o.1 ∧ Sim k o.2) := by
    intro how hl hw
    rcases lk1 h hl with ⟨w1, _⟩ | ⟨_, w2⟩
    · rw [hw] at w1; cases w1
    · unfold k_Mo_look_41 k_Mo_look_67
      refine po_b w2 (fun r hr => ?_)
      obtain ⟨c1, e2, hh⟩ := hr
      rcases hh with ⟨g1, g2⟩ | ⟨g1, g2, _, g3⟩
      · refine po_t (by rw [g2]; exact Int64.not_lt.mp g1) (po_s ⟨g2.symm, ?_⟩)
        show Sim k r.2
        rw [e2]; exact h
      · refine po_f (by rw [g2]; decide) (po_s ⟨?_, ?_⟩)
        · show v = -2 - (z_gI r.2 1).toInt64
          rw [e2]
          show v = -2 - c1.toInt64
          rw [← g3]; exact (neg_sub2 v).symm
        · show Sim k r.2
          rw [e2]; exact h
  rcases lk1 h hK' with ⟨w1, w2⟩ | ⟨w1, _⟩
  · rw [w1]
    exact po_bs (po_f (by decide) (po_s ⟨w2, h⟩))
  · rw [w1]
    refine po_bs (po_t rfl ?_)
    refine po_i (fun c1 => go 1 (by rw [← c1]; exact hK') w1) (fun c1 => po_i (fun c2 => go 2 (by rw [← c2]; exact hK') w1) (fun c2 => go 0 (by rw [← loc_0 p c1 c2 k]; exact hK') w1))
theorem level_r {k m : z_Sg} (h : Sim k m) (t : Int32) {k' : z_Sg} (hK : f_Co_level t k = some k') : z_po (f_Mo_level t m) (fun o => Sim k' o) := by
  unfold f_Co_level z_gd at hK
  by_cases c : z_bo t
  · rw [if_pos c, po_nm2] at hK
    cases hK
    unfold f_Mo_level
    refine po_G (fun _ => po_n (fun q2 e2 => po_s ?_))
    rw [e2]
    obtain ⟨s1, s2, s3, s4, s5, s6, s7, s8, s9, s10, s11⟩ := h
    exact ⟨s1, s2, s3, s4, s5, s6, s7, s8, rfl, s10, s11⟩
  · rw [if_neg c] at hK; cases hK
theorem run_r {k m : z_Sg} (h : Sim k m) (hk : iK k) (hm : iM 16 z_Z m) (x : Int32) {oK : Int32 × z_Sg} (hK : f_Co_run x k = some oK) : z_po (f_Mo_run x m) (fun oM => oK.1 = oM.1 ∧ Sim oK.2 oM.2) := by
  have FBm : ∀ {q : z_Sg}, iM 16 z_Z q → FB q := by
    intro q hq j
    have e := iM_n1 hq j
    obtain ⟨a1, a2⟩ := e
    have : (z_gN q 1 j).toInt = 0 ∨ (z_gN q 1 j).toInt = 1 := by omega
    rcases this with e | e
    · exact Or.inl (Int32.toInt_inj.mp (by rw [e]; rfl))
    · exact Or.inr (Int32.toInt_inj.mp (by rw [e]; rfl))
  have key : ∀ f1 f2 (i : Int32) (k m : z_Sg), i ≤ x → Sim k m → iK k → iM 16 z_Z m → ∀ oK, z_lo (fun ih15 (a : Int32 × Int32 × z_Sg) => kb_Co_run_15 ih15 a.1 a.2.1 a.2.2) f1 (x, i, k) = some oK → z_po (z_lo (fun ih15 (a : Int32 × Int32 × z_Sg) => kb_Mo_run_15 ih15 a.1 a.2.1 a.2.2) f2 (x, i, m)) (fun oM => oK.1 = oM.1 ∧ Sim oK.2 oM.2) := by
    intro f1
    induction f1 with
    | zero => intro f2 i k m _ _ _ _ oK hK; cases hK
    | succ f1 ih =>
      intro f2 i k m hi h hk hm oK hK
      cases f2 with
      | zero => exact po_0
      | succ f2 =>
        have hK' : kb_Co_run_15 (z_lo (fun ih15 (a : Int32 × Int32 × z_Sg) => kb_Co_run_15 ih15 a.1 a.2.1 a.2.2) f1) x i k = some oK := hK
        show z_po (kb_Mo_run_15 (z_lo (fun ih15 (a : Int32 × Int32 × z_Sg) => kb_Mo_run_15 ih15 a.1 a.2.1 a.2.2) f2) x i m) _
        unfold kb_Co_run_15 at hK'
        unfold kb_Mo_run_15
        by_cases c : x ≤ i
        · rw [if_pos c] at hK'
          cases hK'
          exact po_t c (po_s ⟨Int32.le_antisymm c hi, h⟩)
        · rw [if_neg c] at hK'
          refine po_f c ?_
          obtain ⟨oS, s1, s2, _⟩ := t_f_Co_step k hk
          rw [s1, po_bs2] at hK'
          obtain ⟨oT, t1, t2, _⟩ := t_f_Mo_step m hm
          have hs := step_po h (FBm hm) s1 oT t1
          rw [t1]
          refine po_bs ?_
          have lt : i < x := Int32.not_le.mp c
          have ii : i + 1 ≤ x := by
            rw [Int32.lt_iff_toInt_lt] at lt
            rw [Int32.le_iff_toInt_le]
            have := Int32.toInt_lt x
            have hx2 := Int32.minValue_le_toInt i
            have e1 : (1 : Int32).toInt = 1 := rfl
            rw [Int32.toInt_add, e1]
            have : (i.toInt + 1).bmod (2 ^ 32) = i.toInt + 1 := z_bmod (by have : Int32.minValue.toInt = -2147483648 := rfl; omega) (by omega)
            omega
          by_cases d : oS.1 = -1
          · rw [if_pos d, po_nm2] at hK'
            refine po_t (hs.2.mp d) (po_n (fun n e => ?_))
            rw [e]
            exact ih f2 (i + 1) oS.2 oT.2 ii hs.1 s2 t2 oK hK'
          · rw [if_neg d] at hK'
            cases hK'
            exact po_f (fun z => d (hs.2.mpr z)) (po_s ⟨rfl, hs.1⟩)
  unfold f_Co_run k_Co_run_11 at hK
  unfold f_Mo_run k_Mo_run_11
  by_cases c : x < 0
  · rw [if_pos c] at hK
    cases hK
    exact po_t c (po_s ⟨rfl, h⟩)
  · rw [if_neg c] at hK
    refine po_f c ?_
    by_cases d : x ≤ 1000
    · rw [if_pos d] at hK
      refine po_t d ?_
      exact key 2000 2000 0 k m (Int32.not_lt.mp c) h hk hm oK hK
    · rw [if_neg d] at hK
      cases hK
      exact po_f d (po_s ⟨rfl, h⟩)
