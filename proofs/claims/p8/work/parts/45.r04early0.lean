theorem X_t {β : Type} {st : β → z_Sg} {x : Option β} {q : z_Sg} (h : z_po x (fun o => z_pn (st o) = z_pn q)) (hq : z_gI q 4 = -1) : z_po x (z_X st (x.bind (fun o => some (.inr o)))) := by
  intro o ho
  rw [ho]
  exact X_s (pn_a (h o ho) hq)
def e_f_Mo_refuse (x1 : Int32) (q : z_Sg) : Option (Sum z_Dd z_Sg) := if x1 = -1 then some (.inr (z_sI q 4 x1)) else some (.inl (x1, z_gL q 5, z_gI q 0))
theorem x_f_Mo_refuse (x1 : Int32) (q : z_Sg) (hq : z_gI q 4 = -1) : z_po (f_Mo_refuse x1 q) (z_X (fun o : z_Sg => o) (e_f_Mo_refuse x1 q)) := by
  unfold f_Mo_refuse e_f_Mo_refuse k_Mo_refuse_13
  refine po_t hq (po_n (fun n e => po_s ?_))
  by_cases h : x1 = -1
  · rw [if_pos h, e]; exact Or.inl ⟨h, rfl⟩
  · rw [if_neg h, e]; exact Or.inr ⟨h, rfl⟩
def e_f_Mo_lookUp (x1 : Int64) (x3 : Int32) (x4 : Int32) (x5 : Int32) (q : z_Sg) : Option (Sum z_Dd z_Sg) :=
  z_lo (fun jh (a : Int32 × z_Sg) => if x3 ≤ a.1 then some (.inr a.2) else (f_Mo_isWrong (x1 + a.1.toInt64) a.2).bind (fun r3 => if r3 = 0 then (f_Mo_find (x1 + a.1.toInt64) x4 a.2).bind (fun r5 => if z_bad a.1 8 then none else (if r5.1 < 0 then some (.inl (14, x1 + a.1.toInt64, z_gI r5.2 1)) else jh (a.1 + 1, z_sM r5.2 3 a.1.toNatClampNeg r5.1))) else some (.inl (if x5 = 0 then 13 else 12, z_gL a.2 5, z_gI a.2 0)))) 2000 (0, q)
theorem z_lo_po {α β : Type} {F : (α → Option β) → α → Option β} {P : β → Prop} {n : Nat} {a : α} (h : ∀ ih : α → Option β, z_po (F ih a) P) : z_po (z_lo F n a) P := by
  cases n with
  | zero => exact po_0
  | succ n => exact h _
set_option maxHeartbeats 4000000 in
theorem x_f_Mo_lookUp (x1 : Int64) (x3 : Int32) (x4 : Int32) (x5 : Int32) (q : z_Sg) (hq : z_gI q 4 = -1) : z_po (f_Mo_lookUp x1 x3 x4 x5 q) (z_X (fun o : z_Sg => o) (e_f_Mo_lookUp x1 x3 x4 x5 q)) := by
  unfold f_Mo_lookUp k_Mo_lookUp_3 e_f_Mo_lookUp
  have key : ∀ (n : Nat) (k : Int32) (q : z_Sg), z_gI q 4 = -1 → z_po (z_lo (fun ih3 (a : Int64 × Int32 × Int32 × Int32 × Int32 × z_Sg) => kb_Mo_lookUp_3 ih3 a.1 a.2.1 a.2.2.1 a.2.2.2.1 a.2.2.2.2.1 a.2.2.2.2.2) n (x1, x3, x4, x5, k, q)) (z_X (fun o : z_Sg => o) (z_lo (fun jh (a : Int32 × z_Sg) => if x3 ≤ a.1 then some (.inr a.2) else (f_Mo_isWrong (x1 + a.1.toInt64) a.2).bind (fun r3 => if r3 = 0 then (f_Mo_find (x1 + a.1.toInt64) x4 a.2).bind (fun r5 => if z_bad a.1 8 then none else (if r5.1 < 0 then some (.inl (14, x1 + a.1.toInt64, z_gI r5.2 1)) else jh (a.1 + 1, z_sM r5.2 3 a.1.toNatClampNeg r5.1))) else some (.inl (if x5 = 0 then 13 else 12, z_gL a.2 5, z_gI a.2 0)))) n (k, q))) := by
    intro n
    induction n with
    | zero => intro k q hq; exact po_0
    | succ n ih =>
      intro k q hq
      show z_po (kb_Mo_lookUp_3 _ x1 x3 x4 x5 k q) (z_X (fun o : z_Sg => o) (if x3 ≤ k then some (.inr q) else (f_Mo_isWrong (x1 + k.toInt64) q).bind (fun r3 => if r3 = 0 then (f_Mo_find (x1 + k.toInt64) x4 q).bind (fun r5 => if z_bad k 8 then none else (if r5.1 < 0 then some (.inl (14, x1 + k.toInt64, z_gI r5.2 1)) else _)) else some (.inl (if x5 = 0 then 13 else 12, z_gL q 5, z_gI q 0)))))
      unfold kb_Mo_lookUp_3 k_Mo_lookUp_107
      refine X_i (fun _ => po_s (X_s hq)) (fun _ => ?_)
      refine po_t hq ?_
      refine X_p (R := fun _ => True) (fun _ _ => trivial) (fun r3 _ => ?_)
      refine X_i (fun _ => ?_) (fun _ => ?_)
      · refine X_p (d_f_Mo_find q (x1 + k.toInt64) x4 q rfl) (fun r5 h5 => ?_)
        refine X_g (fun c8 => ?_)
        have e7 : z_gM (z_sM r5.2 3 k.toNatClampNeg r5.1) 3 k.toNatClampNeg = r5.1 := by
          show vp_updL (z_gM r5.2 3) k.toNatClampNeg r5.1 k.toNatClampNeg = r5.1
          unfold vp_updL
          exact if_pos rfl
        have ha : z_gI (z_sM r5.2 3 k.toNatClampNeg r5.1) 4 = -1 := pn_a h5 hq
        refine po_n (fun q7 eq7 => ?_)
        rw [eq7]
        refine po_g (fun _ => ?_)
        rw [e7]
        refine X_i (fun c => ?_) (fun c => ?_)
        · unfold f_Mo_refuse k_Mo_refuse_13
          rw [if_pos ha]
          refine po_b (R := fun r => r = z_sI (z_sM r5.2 3 k.toNatClampNeg r5.1) 4 14) (po_n (fun n e => po_s e)) (fun r10 e10 => ?_)
          refine po_n (fun q11 e11 => po_n (fun q12 e12 => ?_))
          unfold k_Mo_lookUp_101
          refine po_n (fun n13 _ => ?_)
          have hp : z_pn q12 = (14, x1 + k.toInt64, z_gI r5.2 1) := by rw [e12, e11, e10]; rfl
          refine po_w (z_lo_po (fun ih => ?_)) (fun o (ho : z_pn o = z_pn q12) => ?_)
          · show z_po (kb_Mo_lookUp_3 ih x1 x3 x4 x5 n13 q12) _
            unfold kb_Mo_lookUp_3 k_Mo_lookUp_107
            refine po_i (fun _ => po_s rfl) (fun _ => po_f ?_ (po_s rfl))
            have h4 : z_gI q12 4 = 14 := congrArg Prod.fst hp
            rw [h4]; decide
          · have h4 : z_gI o 4 = 14 := by rw [pn_4 ho]; exact congrArg Prod.fst hp
            exact Or.inr ⟨by show ¬ z_gI o 4 = -1; rw [h4]; decide, by rw [ho, hp]⟩
        · exact ih _ _ ha
      · have fin : ∀ t1 : Int32, ¬ t1 = -1 → z_po (k_Mo_lookUp_41 t1 q) (z_X (fun o : z_Sg => o) (some (.inl (t1, z_gL q 5, z_gI q 0)))) := by
          intro t1 ht
          unfold k_Mo_lookUp_41 f_Mo_refuse k_Mo_refuse_13
          rw [if_pos hq]
          refine po_b (R := fun r => r = z_sI q 4 t1) (po_n (fun n e => po_s e)) (fun r10 e10 => po_s ?_)
          rw [e10]
          exact Or.inr ⟨ht, rfl⟩
        refine po_i (fun c => ?_) (fun c => ?_)
        · rw [if_pos c]; exact fin 13 (by decide)
        · rw [if_neg c]; exact fin 12 (by decide)
  exact key 2000 0 q hq
set_option maxHeartbeats 4000000 in
set_option maxRecDepth 100000 in
def e_k_Mo_fetch_23 (q : z_Sg) : Option (Sum z_Dd (Int32 × z_Sg)) :=
  (z_eb (e_f_Mo_lookUp ((z_gL q 0) + (z_gI q 6).toInt64) (1 : Int32) (2 : Int32) (0 : Int32) q) (fun r2 => (z_nm (z_sI r2 6 ((z_gI r2 6) + (1 : Int32))) (fun q4 => (if (z_bad (0 : Int32) 8) then none else ((f_Mo_byteAt (z_gM q4 3 (0 : Int32).toNatClampNeg) q4).bind (fun r6 => (some (.inr (r6, q4))))))))))
theorem x_k_Mo_fetch_23 (q : z_Sg) (hq : z_gI q 4 = -1) : z_po (k_Mo_fetch_23 q) (z_X (fun o : (Int32 × z_Sg) => o.2) (e_k_Mo_fetch_23 q)) := by
  unfold k_Mo_fetch_23 e_k_Mo_fetch_23
  refine X_b (x_f_Mo_lookUp ((z_gL q 0) + (z_gI q 6).toInt64) (1 : Int32) (2 : Int32) (0 : Int32) q hq) (fun r2 h_r2 => ?_) (fun r2 h_r2 => ?_)
  rotate_left
  ·
    refine po_f (pn_d rfl h_r2) ?_
    exact po_s rfl
  refine po_t h_r2 ?_
  refine X_n (fun q4 e_q4 => ?_)
  have h_q4 : z_gI q4 4 = -1 := by rw [e_q4]; exact h_r2
  refine X_g (fun _ => ?_)
  refine X_p (R := fun _ => True) (fun _ _ => trivial) (fun r6 _ => ?_)
  exact po_s (X_s h_q4)
set_option maxHeartbeats 4000000 in
set_option maxRecDepth 100000 in
def e_f_Mo_fetch (q : z_Sg) : Option (Sum z_Dd (Int32 × z_Sg)) :=
  (if (z_gI q 6) = (15 : Int32) then (z_eb (e_f_Mo_refuse (13 : Int32) q) (fun r8 => (e_k_Mo_fetch_23 r8))) else (e_k_Mo_fetch_23 q))
theorem x_f_Mo_fetch (q : z_Sg) (hq : z_gI q 4 = -1) : z_po (f_Mo_fetch q) (z_X (fun o : (Int32 × z_Sg) => o.2) (e_f_Mo_fetch q)) := by
  unfold f_Mo_fetch e_f_Mo_fetch
  refine po_t hq ?_
  refine X_i (fun _ => ?_) (fun _ => ?_)
  ·
    refine X_b (x_f_Mo_refuse (13 : Int32) q hq) (fun r8 h_r8 => ?_) (fun r8 h_r8 => ?_)
    rotate_left
    ·
      exact d_k_Mo_fetch_23 r8 r8 rfl h_r8
    exact x_k_Mo_fetch_23 r8 h_r8
  ·
    exact x_k_Mo_fetch_23 q hq
set_option maxHeartbeats 4000000 in
set_option maxRecDepth 100000 in
def e_k_Mo_open_148 (x1 : Int32) (t1 : Int32) (q : z_Sg) : Option (Sum z_Dd z_Sg) :=
  (z_gd ((z_bo t1)) (z_nm (z_sI q 18 t1) (fun q9 => (if (z_gI q9 18) = 0 then ((k_Mo_open_167 x1 q9).bind (fun o => some (.inr o))) else (z_eb (e_f_Mo_fetch q9) (fun r12 => ((k_Mo_open_167 r12.1 r12.2).bind (fun o => some (.inr o)))))))))
theorem x_k_Mo_open_148 (x1 : Int32) (t1 : Int32) (q : z_Sg) (hq : z_gI q 4 = -1) : z_po (k_Mo_open_148 x1 t1 q) (z_X (fun o : z_Sg => o) (e_k_Mo_open_148 x1 t1 q)) := by
  unfold k_Mo_open_148 e_k_Mo_open_148
  refine X_G (fun _ => ?_)
  refine X_n (fun q9 e_q9 => ?_)
  have h_q9 : z_gI q9 4 = -1 := by rw [e_q9]; exact hq
  refine X_i (fun _ => ?_) (fun _ => ?_)
  ·
    exact X_t (d_k_Mo_open_167 q9 x1 q9 rfl) h_q9
  ·
    refine X_b (x_f_Mo_fetch q9 h_q9) (fun r12 h_r12 => ?_) (fun r12 h_r12 => ?_)
    rotate_left
    ·
      exact d_k_Mo_open_167 r12.2 r12.1 r12.2 rfl
    exact X_t (d_k_Mo_open_167 r12.2 r12.1 r12.2 rfl) h_r12
set_option maxHeartbeats 4000000 in
set_option maxRecDepth 100000 in
def e_k_Mo_open_147 (x1 : Int32) (q : z_Sg) : Option (Sum z_Dd z_Sg) :=
  (e_k_Mo_open_148 x1 (0 : Int32) q)
theorem x_k_Mo_open_147 (x1 : Int32) (q : z_Sg) (hq : z_gI q 4 = -1) : z_po (k_Mo_open_147 x1 q) (z_X (fun o : z_Sg => o) (e_k_Mo_open_147 x1 q)) := by
  unfold k_Mo_open_147 e_k_Mo_open_147
  exact x_k_Mo_open_148 x1 (0 : Int32) q hq
set_option maxHeartbeats 4000000 in
set_option maxRecDepth 100000 in
def e_k_Mo_open_128 (x1 : Int32) (q : z_Sg) : Option (Sum z_Dd z_Sg) :=
  (if x1 = (15 : Int32) then (e_k_Mo_open_148 x1 (1 : Int32) q) else (e_k_Mo_open_147 x1 q))
theorem x_k_Mo_open_128 (x1 : Int32) (q : z_Sg) (hq : z_gI q 4 = -1) : z_po (k_Mo_open_128 x1 q) (z_X (fun o : z_Sg => o) (e_k_Mo_open_128 x1 q)) := by
  unfold k_Mo_open_128 e_k_Mo_open_128
  refine X_i (fun _ => ?_) (fun _ => ?_)
  ·
    refine po_t hq ?_
    exact x_k_Mo_open_148 x1 (1 : Int32) q hq
  ·
    exact x_k_Mo_open_147 x1 q hq
set_option maxHeartbeats 4000000 in
set_option maxRecDepth 100000 in
def e_k_Mo_open_120 (jh25 : Int32 × z_Sg → Option (Sum z_Dd z_Sg)) (q : z_Sg) : Option (Sum z_Dd z_Sg) :=
  (z_eb (e_f_Mo_fetch q) (fun r21 => (jh25 (r21.1, r21.2))))
theorem x_k_Mo_open_120 (ih25 : Int32 × z_Sg → Option z_Sg) (jh25 : Int32 × z_Sg → Option (Sum z_Dd z_Sg)) (q : z_Sg) (h_ih25 : ∀ a : Int32 × z_Sg, z_gI a.2 4 = -1 → z_po (ih25 a) (z_X (fun o : z_Sg => o) (jh25 a))) (g_ih25 : ∀ (q0 : z_Sg) (a : Int32 × z_Sg), z_pn a.2 = z_pn q0 → ¬ z_gI q0 4 = -1 → z_po (ih25 a) (fun o : z_Sg => z_pn o = z_pn q0)) (hq : z_gI q 4 = -1) : z_po (k_Mo_open_120 ih25 q) (z_X (fun o : z_Sg => o) (e_k_Mo_open_120 jh25 q)) := by
  unfold k_Mo_open_120 e_k_Mo_open_120
  refine X_b (x_f_Mo_fetch q hq) (fun r21 h_r21 => ?_) (fun r21 h_r21 => ?_)
  rotate_left
  ·
    exact g_ih25 r21.2 _ rfl h_r21
  exact h_ih25 _ h_r21
set_option maxHeartbeats 4000000 in
set_option maxRecDepth 100000 in
def e_k_Mo_open_105 (jh25 : Int32 × z_Sg → Option (Sum z_Dd z_Sg)) (x1 : Int32) (t1 : Int32) (q : z_Sg) : Option (Sum z_Dd z_Sg) :=
  (z_gd ((z_bo t1)) (z_nm (z_sI q 16 t1) (fun q19 => (if x1 ≤ (240 : Int32) then (e_k_Mo_open_120 jh25 q19) else (z_nm (z_sI q19 11 x1) (fun q22 => (e_k_Mo_open_120 jh25 q22)))))))
theorem x_k_Mo_open_105 (ih25 : Int32 × z_Sg → Option z_Sg) (jh25 : Int32 × z_Sg → Option (Sum z_Dd z_Sg)) (x1 : Int32) (t1 : Int32) (q : z_Sg) (h_ih25 : ∀ a : Int32 × z_Sg, z_gI a.2 4 = -1 → z_po (ih25 a) (z_X (fun o : z_Sg => o) (jh25 a))) (g_ih25 : ∀ (q0 : z_Sg) (a : Int32 × z_Sg), z_pn a.2 = z_pn q0 → ¬ z_gI q0 4 = -1 → z_po (ih25 a) (fun o : z_Sg => z_pn o = z_pn q0)) (hq : z_gI q 4 = -1) : z_po (k_Mo_open_105 ih25 x1 t1 q) (z_X (fun o : z_Sg => o) (e_k_Mo_open_105 jh25 x1 t1 q)) := by
  unfold k_Mo_open_105 e_k_Mo_open_105
  refine X_G (fun _ => ?_)
  refine X_n (fun q19 e_q19 => ?_)
  have h_q19 : z_gI q19 4 = -1 := by rw [e_q19]; exact hq
  refine X_i (fun _ => ?_) (fun _ => ?_)
  ·
    exact x_k_Mo_open_120 ih25 jh25 q19 h_ih25 g_ih25 h_q19
  ·
    refine X_n (fun q22 e_q22 => ?_)
    have h_q22 : z_gI q22 4 = -1 := by rw [e_q22]; exact h_q19
    exact x_k_Mo_open_120 ih25 jh25 q22 h_ih25 g_ih25 h_q22
set_option maxHeartbeats 4000000 in
set_option maxRecDepth 100000 in
def e_k_Mo_open_100 (jh25 : Int32 × z_Sg → Option (Sum z_Dd z_Sg)) (x1 : Int32) (q : z_Sg) : Option (Sum z_Dd z_Sg) :=
  (e_k_Mo_open_105 jh25 x1 (1 : Int32) q)
theorem x_k_Mo_open_100 (ih25 : Int32 × z_Sg → Option z_Sg) (jh25 : Int32 × z_Sg → Option (Sum z_Dd z_Sg)) (x1 : Int32) (q : z_Sg) (h_ih25 : ∀ a : Int32 × z_Sg, z_gI a.2 4 = -1 → z_po (ih25 a) (z_X (fun o : z_Sg => o) (jh25 a))) (g_ih25 : ∀ (q0 : z_Sg) (a : Int32 × z_Sg), z_pn a.2 = z_pn q0 → ¬ z_gI q0 4 = -1 → z_po (ih25 a) (fun o : z_Sg => z_pn o = z_pn q0)) (hq : z_gI q 4 = -1) : z_po (k_Mo_open_100 ih25 x1 q) (z_X (fun o : z_Sg => o) (e_k_Mo_open_100 jh25 x1 q)) := by
  unfold k_Mo_open_100 e_k_Mo_open_100
  exact x_k_Mo_open_105 ih25 jh25 x1 (1 : Int32) q h_ih25 g_ih25 hq
set_option maxHeartbeats 4000000 in
set_option maxRecDepth 100000 in
def e_k_Mo_open_83 (jh25 : Int32 × z_Sg → Option (Sum z_Dd z_Sg)) (x1 : Int32) (t1 : Int32) (q : z_Sg) : Option (Sum z_Dd z_Sg) :=
  (z_nm (z_sI q 10 t1) (fun q16 => (if (z_gI q16 16) = 0 then (if x1 = (102 : Int32) then (e_k_Mo_open_100 jh25 x1 q16) else (e_k_Mo_open_105 jh25 x1 (0 : Int32) q16)) else (e_k_Mo_open_100 jh25 x1 q16))))
theorem x_k_Mo_open_83 (ih25 : Int32 × z_Sg → Option z_Sg) (jh25 : Int32 × z_Sg → Option (Sum z_Dd z_Sg)) (x1 : Int32) (t1 : Int32) (q : z_Sg) (h_ih25 : ∀ a : Int32 × z_Sg, z_gI a.2 4 = -1 → z_po (ih25 a) (z_X (fun o : z_Sg => o) (jh25 a))) (g_ih25 : ∀ (q0 : z_Sg) (a : Int32 × z_Sg), z_pn a.2 = z_pn q0 → ¬ z_gI q0 4 = -1 → z_po (ih25 a) (fun o : z_Sg => z_pn o = z_pn q0)) (hq : z_gI q 4 = -1) : z_po (k_Mo_open_83 ih25 x1 t1 q) (z_X (fun o : z_Sg => o) (e_k_Mo_open_83 jh25 x1 t1 q)) := by
  unfold k_Mo_open_83 e_k_Mo_open_83
  refine X_n (fun q16 e_q16 => ?_)
  have h_q16 : z_gI q16 4 = -1 := by rw [e_q16]; exact hq
  refine X_i (fun _ => ?_) (fun _ => ?_)
  ·
    refine X_i (fun _ => ?_) (fun _ => ?_)
    ·
      exact x_k_Mo_open_100 ih25 jh25 x1 q16 h_ih25 g_ih25 h_q16
    ·
      exact x_k_Mo_open_105 ih25 jh25 x1 (0 : Int32) q16 h_ih25 g_ih25 h_q16
  ·
    exact x_k_Mo_open_100 ih25 jh25 x1 q16 h_ih25 g_ih25 h_q16
set_option maxHeartbeats 4000000 in
set_option maxRecDepth 100000 in
def e_k_Mo_open_82 (jh25 : Int32 × z_Sg → Option (Sum z_Dd z_Sg)) (x1 : Int32) (q : z_Sg) : Option (Sum z_Dd z_Sg) :=
  (e_k_Mo_open_83 jh25 x1 (0 : Int32) q)
theorem x_k_Mo_open_82 (ih25 : Int32 × z_Sg → Option z_Sg) (jh25 : Int32 × z_Sg → Option (Sum z_Dd z_Sg)) (x1 : Int32) (q : z_Sg) (h_ih25 : ∀ a : Int32 × z_Sg, z_gI a.2 4 = -1 → z_po (ih25 a) (z_X (fun o : z_Sg => o) (jh25 a))) (g_ih25 : ∀ (q0 : z_Sg) (a : Int32 × z_Sg), z_pn a.2 = z_pn q0 → ¬ z_gI q0 4 = -1 → z_po (ih25 a) (fun o : z_Sg => z_pn o = z_pn q0)) (hq : z_gI q 4 = -1) : z_po (k_Mo_open_82 ih25 x1 q) (z_X (fun o : z_Sg => o) (e_k_Mo_open_82 jh25 x1 q)) := by
  unfold k_Mo_open_82 e_k_Mo_open_82
  exact x_k_Mo_open_83 ih25 jh25 x1 (0 : Int32) q h_ih25 g_ih25 hq
set_option maxHeartbeats 4000000 in
set_option maxRecDepth 100000 in
def e_k_Mo_open_65 (jh25 : Int32 × z_Sg → Option (Sum z_Dd z_Sg)) (x1 : Int32) (q : z_Sg) : Option (Sum z_Dd z_Sg) :=
  (if x1 < (64 : Int32) then (e_k_Mo_open_82 jh25 x1 q) else (if (79 : Int32) < x1 then (e_k_Mo_open_82 jh25 x1 q) else (e_k_Mo_open_83 jh25 x1 x1 q)))
theorem x_k_Mo_open_65 (ih25 : Int32 × z_Sg → Option z_Sg) (jh25 : Int32 × z_Sg → Option (Sum z_Dd z_Sg)) (x1 : Int32) (q : z_Sg) (h_ih25 : ∀ a : Int32 × z_Sg, z_gI a.2 4 = -1 → z_po (ih25 a) (z_X (fun o : z_Sg => o) (jh25 a))) (g_ih25 : ∀ (q0 : z_Sg) (a : Int32 × z_Sg), z_pn a.2 = z_pn q0 → ¬ z_gI q0 4 = -1 → z_po (ih25 a) (fun o : z_Sg => z_pn o = z_pn q0)) (hq : z_gI q 4 = -1) : z_po (k_Mo_open_65 ih25 x1 q) (z_X (fun o : z_Sg => o) (e_k_Mo_open_65 jh25 x1 q)) := by
  unfold k_Mo_open_65 e_k_Mo_open_65
  refine X_i (fun _ => ?_) (fun _ => ?_)
  ·
    exact x_k_Mo_open_82 ih25 jh25 x1 q h_ih25 g_ih25 hq
  ·
    refine X_i (fun _ => ?_) (fun _ => ?_)
    ·
      exact x_k_Mo_open_82 ih25 jh25 x1 q h_ih25 g_ih25 hq
    ·
      exact x_k_Mo_open_83 ih25 jh25 x1 x1 q h_ih25 g_ih25 hq
set_option maxHeartbeats 4000000 in
set_option maxRecDepth 100000 in
def e_kb_Mo_open_25 (jh25 : Int32 × z_Sg → Option (Sum z_Dd z_Sg)) (x1 : Int32) (q : z_Sg) : Option (Sum z_Dd z_Sg) :=
  (if x1 = (102 : Int32) then (e_k_Mo_open_65 jh25 x1 q) else (if x1 = (242 : Int32) then (e_k_Mo_open_65 jh25 x1 q) else (if x1 = (243 : Int32) then (e_k_Mo_open_65 jh25 x1 q) else (if x1 < (64 : Int32) then (e_k_Mo_open_128 x1 q) else (if (79 : Int32) < x1 then (e_k_Mo_open_128 x1 q) else (e_k_Mo_open_65 jh25 x1 q))))))
theorem x_kb_Mo_open_25 (ih25 : Int32 × z_Sg → Option z_Sg) (jh25 : Int32 × z_Sg → Option (Sum z_Dd z_Sg)) (x1 : Int32) (q : z_Sg) (h_ih25 : ∀ a : Int32 × z_Sg, z_gI a.2 4 = -1 → z_po (ih25 a) (z_X (fun o : z_Sg => o) (jh25 a))) (g_ih25 : ∀ (q0 : z_Sg) (a : Int32 × z_Sg), z_pn a.2 = z_pn q0 → ¬ z_gI q0 4 = -1 → z_po (ih25 a) (fun o : z_Sg => z_pn o = z_pn q0)) (hq : z_gI q 4 = -1) : z_po (kb_Mo_open_25 ih25 x1 q) (z_X (fun o : z_Sg => o) (e_kb_Mo_open_25 jh25 x1 q)) := by
  unfold kb_Mo_open_25 e_kb_Mo_open_25
  refine po_t hq ?_
  refine X_i (fun _ => ?_) (fun _ => ?_)
  ·
    exact x_k_Mo_open_65 ih25 jh25 x1 q h_ih25 g_ih25 hq
  ·
    refine X_i (fun _ => ?_) (fun _ => ?_)
    ·
      exact x_k_Mo_open_65 ih25 jh25 x1 q h_ih25 g_ih25 hq
    ·
      refine X_i (fun _ => ?_) (fun _ => ?_)
      ·
        exact x_k_Mo_open_65 ih25 jh25 x1 q h_ih25 g_ih25 hq
      ·
        refine X_i (fun _ => ?_) (fun _ => ?_)
        ·
          exact x_k_Mo_open_128 x1 q hq
        ·
          refine X_i (fun _ => ?_) (fun _ => ?_)
          ·
            exact x_k_Mo_open_128 x1 q hq
          ·
            exact x_k_Mo_open_65 ih25 jh25 x1 q h_ih25 g_ih25 hq
set_option maxHeartbeats 4000000 in
set_option maxRecDepth 100000 in
def e_k_Mo_open_25 (x1 : Int32) (q : z_Sg) : Option (Sum z_Dd z_Sg) :=
  z_lo (fun jh25 a => e_kb_Mo_open_25 jh25 a.1 a.2) 2000 (x1, q)
theorem x_k_Mo_open_25 (x1 : Int32) (q : z_Sg) (hq : z_gI q 4 = -1) : z_po (k_Mo_open_25 x1 q) (z_X (fun o : z_Sg => o) (e_k_Mo_open_25 x1 q)) := by
  unfold k_Mo_open_25 e_k_Mo_open_25
  exact X_l (fun a : Int32 × z_Sg => z_gI a.2 4 = -1) (fun a : Int32 × z_Sg => a.2) (fun q0 n a ha hd => po_l (fun a : Int32 × z_Sg => z_pn a.2 = z_pn q0) (fun ih25 a ha hih => d_kb_Mo_open_25 q0 ih25 a.1 a.2  hih ha hd) n a ha) (fun ih25 jh25 a ha hih gih => x_kb_Mo_open_25 ih25 jh25 a.1 a.2  hih gih ha) _ _ hq
set_option maxHeartbeats 4000000 in
set_option maxRecDepth 100000 in
def e_f_Mo_open (q : z_Sg) : Option (Sum z_Dd z_Sg) :=
  (z_nm (z_sI q 6 (0 : Int32)) (fun q1 => (z_nm (z_sI q1 10 (0 : Int32)) (fun q2 => (z_nm (z_sI q2 11 (0 : Int32)) (fun q3 => (z_nm (z_sI q3 16 (0 : Int32)) (fun q4 => (z_eb (e_f_Mo_fetch q4) (fun r5 => (e_k_Mo_open_25 r5.1 r5.2)))))))))))
theorem x_f_Mo_open (q : z_Sg) (hq : z_gI q 4 = -1) : z_po (f_Mo_open q) (z_X (fun o : z_Sg => o) (e_f_Mo_open q)) := by
  unfold f_Mo_open e_f_Mo_open
  refine X_n (fun q1 e_q1 => ?_)
  have h_q1 : z_gI q1 4 = -1 := by rw [e_q1]; exact hq
  refine X_n (fun q2 e_q2 => ?_)
  have h_q2 : z_gI q2 4 = -1 := by rw [e_q2]; exact h_q1
  refine X_n (fun q3 e_q3 => ?_)
  have h_q3 : z_gI q3 4 = -1 := by rw [e_q3]; exact h_q2
  refine X_n (fun q4 e_q4 => ?_)
  have h_q4 : z_gI q4 4 = -1 := by rw [e_q4]; exact h_q3
  refine X_b (x_f_Mo_fetch q4 h_q4) (fun r5 h_r5 => ?_) (fun r5 h_r5 => ?_)
  rotate_left
  ·
    exact d_k_Mo_open_25 r5.2 r5.1 r5.2 rfl h_r5
  exact x_k_Mo_open_25 r5.1 r5.2 h_r5
set_option maxHeartbeats 4000000 in
set_option maxRecDepth 100000 in
def e_f_Mo_takeMod (q : z_Sg) : Option (Sum z_Dd z_Sg) :=
  (z_eb (e_f_Mo_fetch q) (fun r1 => (z_nm (z_sI r1.2 7 (r1.1 / (64 : Int32))) (fun q2 => (z_nm (z_sI q2 8 ((r1.1 / (8 : Int32)) - (((r1.1 / (8 : Int32)) / (8 : Int32)) * (8 : Int32)))) (fun q3 => (z_nm (z_sI q3 9 (r1.1 - ((r1.1 / (8 : Int32)) * (8 : Int32)))) (fun q4 => (some (.inr q4))))))))))
theorem x_f_Mo_takeMod (q : z_Sg) (hq : z_gI q 4 = -1) : z_po (f_Mo_takeMod q) (z_X (fun o : z_Sg => o) (e_f_Mo_takeMod q)) := by
  unfold f_Mo_takeMod e_f_Mo_takeMod
  refine X_b (x_f_Mo_fetch q hq) (fun r1 h_r1 => ?_) (fun r1 h_r1 => ?_)
  rotate_left
  ·
    refine po_n (fun q2 e_q2 => ?_)
    have h_q2 : z_pn q2 = z_pn r1.2 := by rw [e_q2]; exact rfl
    refine po_n (fun q3 e_q3 => ?_)
    have h_q3 : z_pn q3 = z_pn r1.2 := by rw [e_q3]; exact h_q2
    refine po_n (fun q4 e_q4 => ?_)
    have h_q4 : z_pn q4 = z_pn r1.2 := by rw [e_q4]; exact h_q3
    exact po_s h_q4
  refine X_n (fun q2 e_q2 => ?_)
  have h_q2 : z_gI q2 4 = -1 := by rw [e_q2]; exact h_r1
  refine X_n (fun q3 e_q3 => ?_)
  have h_q3 : z_gI q3 4 = -1 := by rw [e_q3]; exact h_q2
  refine X_n (fun q4 e_q4 => ?_)
  have h_q4 : z_gI q4 4 = -1 := by rw [e_q4]; exact h_q3
  exact po_s (X_s h_q4)
set_option maxHeartbeats 4000000 in
set_option maxRecDepth 100000 in
def e_kb_Mo_fetchNumber_5 (jh5 : Int32 × Int64 × Int32 × z_Sg → Option (Sum z_Dd (Int64 × z_Sg))) (x1 : Int32) (x2 : Int64) (x4 : Int32) (q : z_Sg) : Option (Sum z_Dd (Int64 × z_Sg)) :=
  (if x1 ≤ x4 then ((f_Mo_extended x2 x1 q).bind (fun r2 => (some (.inr (r2, q))))) else (z_eb (e_f_Mo_fetch q) (fun r3 => (z_nm (x2 ||| (z_lshl r3.1.toInt64 ((8 : Int32) * x4))) (fun n4 => (z_nm (x4 + (1 : Int32)) (fun n5 => (jh5 (x1, n4, n5, r3.2)))))))))
theorem x_kb_Mo_fetchNumber_5 (ih5 : Int32 × Int64 × Int32 × z_Sg → Option (Int64 × z_Sg)) (jh5 : Int32 × Int64 × Int32 × z_Sg → Option (Sum z_Dd (Int64 × z_Sg))) (x1 : Int32) (x2 : Int64) (x4 : Int32) (q : z_Sg) (h_ih5 : ∀ a : Int32 × Int64 × Int32 × z_Sg, z_gI a.2.2.2 4 = -1 → z_po (ih5 a) (z_X (fun o : (Int64 × z_Sg) => o.2) (jh5 a))) (g_ih5 : ∀ (q0 : z_Sg) (a : Int32 × Int64 × Int32 × z_Sg), z_pn a.2.2.2 = z_pn q0 → ¬ z_gI q0 4 = -1 → z_po (ih5 a) (fun o : (Int64 × z_Sg) => z_pn o.2 = z_pn q0)) (hq : z_gI q 4 = -1) : z_po (kb_Mo_fetchNumber_5 ih5 x1 x2 x4 q) (z_X (fun o : (Int64 × z_Sg) => o.2) (e_kb_Mo_fetchNumber_5 jh5 x1 x2 x4 q)) := by
  unfold kb_Mo_fetchNumber_5 e_kb_Mo_fetchNumber_5
  refine X_i (fun _ => ?_) (fun _ => ?_)
  ·
    refine X_p (R := fun _ => True) (fun _ _ => trivial) (fun r2 _ => ?_)
    exact po_s (X_s hq)
  ·
    refine X_b (x_f_Mo_fetch q hq) (fun r3 h_r3 => ?_) (fun r3 h_r3 => ?_)
    rotate_left
    ·
      refine po_n (fun n4 _ => ?_)
      refine po_n (fun n5 _ => ?_)
      exact g_ih5 r3.2 _ rfl h_r3
    refine X_n (fun n4 _ => ?_)
    refine X_n (fun n5 _ => ?_)
    exact h_ih5 _ h_r3
set_option maxHeartbeats 4000000 in
set_option maxRecDepth 100000 in
def e_k_Mo_fetchNumber_5 (x1 : Int32) (x2 : Int64) (x4 : Int32) (q : z_Sg) : Option (Sum z_Dd (Int64 × z_Sg)) :=
  z_lo (fun jh5 a => e_kb_Mo_fetchNumber_5 jh5 a.1 a.2.1 a.2.2.1 a.2.2.2) 2000 (x1, x2, x4, q)
theorem x_k_Mo_fetchNumber_5 (x1 : Int32) (x2 : Int64) (x4 : Int32) (q : z_Sg) (hq : z_gI q 4 = -1) : z_po (k_Mo_fetchNumber_5 x1 x2 x4 q) (z_X (fun o : (Int64 × z_Sg) => o.2) (e_k_Mo_fetchNumber_5 x1 x2 x4 q)) := by
  unfold k_Mo_fetchNumber_5 e_k_Mo_fetchNumber_5
  exact X_l (fun a : Int32 × Int64 × Int32 × z_Sg => z_gI a.2.2.2 4 = -1) (fun a : Int32 × Int64 × Int32 × z_Sg => a.2.2.2) (fun q0 n a ha hd => po_l (fun a : Int32 × Int64 × Int32 × z_Sg => z_pn a.2.2.2 = z_pn q0) (fun ih5 a ha hih => d_kb_Mo_fetchNumber_5 q0 ih5 a.1 a.2.1 a.2.2.1 a.2.2.2  hih ha hd) n a ha) (fun ih5 jh5 a ha hih gih => x_kb_Mo_fetchNumber_5 ih5 jh5 a.1 a.2.1 a.2.2.1 a.2.2.2  hih gih ha) _ _ hq
set_option maxHeartbeats 4000000 in
set_option maxRecDepth 100000 in
def e_f_Mo_fetchNumber (x1 : Int32) (q : z_Sg) : Option (Sum z_Dd (Int64 × z_Sg)) :=
  (e_k_Mo_fetchNumber_5 x1 (0 : Int64) (0 : Int32) q)
theorem x_f_Mo_fetchNumber (x1 : Int32) (q : z_Sg) (hq : z_gI q 4 = -1) : z_po (f_Mo_fetchNumber x1 q) (z_X (fun o : (Int64 × z_Sg) => o.2) (e_f_Mo_fetchNumber x1 q)) := by
  unfold f_Mo_fetchNumber e_f_Mo_fetchNumber
  exact x_k_Mo_fetchNumber_5 x1 (0 : Int64) (0 : Int32) q hq
set_option maxHeartbeats 4000000 in
set_option maxRecDepth 100000 in
def e_k_Mo_takePlace_201 (x1 : Int32) (q : z_Sg) : Option (Sum z_Dd z_Sg) :=
  (if x1 ≤ 0 then ((k_Mo_takePlace_214 q).bind (fun o => some (.inr o))) else (z_eb (e_f_Mo_fetchNumber x1 q) (fun r19 => (z_nm (z_sL r19.2 6 r19.1) (fun q20 => ((k_Mo_takePlace_214 q20).bind (fun o => some (.inr o))))))))
theorem x_k_Mo_takePlace_201 (x1 : Int32) (q : z_Sg) (hq : z_gI q 4 = -1) : z_po (k_Mo_takePlace_201 x1 q) (z_X (fun o : z_Sg => o) (e_k_Mo_takePlace_201 x1 q)) := by
  unfold k_Mo_takePlace_201 e_k_Mo_takePlace_201
  refine X_i (fun _ => ?_) (fun _ => ?_)
  ·
    exact X_t (d_k_Mo_takePlace_214 q q rfl) hq
  ·
    refine X_b (x_f_Mo_fetchNumber x1 q hq) (fun r19 h_r19 => ?_) (fun r19 h_r19 => ?_)
    rotate_left
    ·
      refine po_n (fun q20 e_q20 => ?_)
      have h_q20 : z_pn q20 = z_pn r19.2 := by rw [e_q20]; exact rfl
      exact d_k_Mo_takePlace_214 r19.2 q20 h_q20
    refine X_n (fun q20 e_q20 => ?_)
    have h_q20 : z_gI q20 4 = -1 := by rw [e_q20]; exact h_r19
    exact X_t (d_k_Mo_takePlace_214 q20 q20 rfl) h_q20
set_option maxHeartbeats 4000000 in
set_option maxRecDepth 100000 in
def e_k_Mo_takePlace_187 (x1 : Int32) (x2 : Int32) (q : z_Sg) : Option (Sum z_Dd z_Sg) :=
  ((f_Mo_plus (1 : Int32) q).bind (fun r16 => (z_nm (z_sI q 13 ((x2 - ((x2 / (8 : Int32)) * (8 : Int32))) + r16)) (fun q17 => (e_k_Mo_takePlace_201 x1 q17)))))
theorem x_k_Mo_takePlace_187 (x1 : Int32) (x2 : Int32) (q : z_Sg) (hq : z_gI q 4 = -1) : z_po (k_Mo_takePlace_187 x1 x2 q) (z_X (fun o : z_Sg => o) (e_k_Mo_takePlace_187 x1 x2 q)) := by
  unfold k_Mo_takePlace_187 e_k_Mo_takePlace_187
  refine X_p (R := fun _ => True) (fun _ _ => trivial) (fun r16 _ => ?_)
  refine X_n (fun q17 e_q17 => ?_)
  have h_q17 : z_gI q17 4 = -1 := by rw [e_q17]; exact hq
  exact x_k_Mo_takePlace_201 x1 q17 h_q17
set_option maxHeartbeats 4000000 in
set_option maxRecDepth 100000 in
def e_k_Mo_takePlace_167 (x1 : Int32) (x2 : Int32) (q : z_Sg) : Option (Sum z_Dd z_Sg) :=
  (if (x2 - ((x2 / (8 : Int32)) * (8 : Int32))) = (5 : Int32) then (if (z_gI q 7) = 0 then (e_k_Mo_takePlace_201 (4 : Int32) q) else (e_k_Mo_takePlace_187 x1 x2 q)) else (e_k_Mo_takePlace_187 x1 x2 q))
theorem x_k_Mo_takePlace_167 (x1 : Int32) (x2 : Int32) (q : z_Sg) (hq : z_gI q 4 = -1) : z_po (k_Mo_takePlace_167 x1 x2 q) (z_X (fun o : z_Sg => o) (e_k_Mo_takePlace_167 x1 x2 q)) := by
  unfold k_Mo_takePlace_167 e_k_Mo_takePlace_167
  refine X_i (fun _ => ?_) (fun _ => ?_)
  ·
    refine X_i (fun _ => ?_) (fun _ => ?_)
    ·
      exact x_k_Mo_takePlace_201 (4 : Int32) q hq
    ·
      exact x_k_Mo_takePlace_187 x1 x2 q hq
  ·
    exact x_k_Mo_takePlace_187 x1 x2 q hq
set_option maxHeartbeats 4000000 in
set_option maxRecDepth 100000 in
def e_k_Mo_takePlace_92 (x1 : Int32) (t1 : Int32) (q : z_Sg) : Option (Sum z_Dd z_Sg) :=
  (z_gd ((z_bo t1)) (z_nm (z_sI q 17 t1) (fun q25 => (if (z_gI q25 17) = 0 then ((f_Mo_plus (1 : Int32) q25).bind (fun r27 => (z_nm (z_sI q25 13 ((z_gI q25 9) + r27)) (fun q28 => (e_k_Mo_takePlace_201 x1 q28))))) else (e_k_Mo_takePlace_201 (4 : Int32) q25)))))
theorem x_k_Mo_takePlace_92 (x1 : Int32) (t1 : Int32) (q : z_Sg) (hq : z_gI q 4 = -1) : z_po (k_Mo_takePlace_92 x1 t1 q) (z_X (fun o : z_Sg => o) (e_k_Mo_takePlace_92 x1 t1 q)) := by
  unfold k_Mo_takePlace_92 e_k_Mo_takePlace_92
  refine X_G (fun _ => ?_)
  refine X_n (fun q25 e_q25 => ?_)
  have h_q25 : z_gI q25 4 = -1 := by rw [e_q25]; exact hq
  refine X_i (fun _ => ?_) (fun _ => ?_)
  ·
    refine X_p (R := fun _ => True) (fun _ _ => trivial) (fun r27 _ => ?_)
    refine X_n (fun q28 e_q28 => ?_)
    have h_q28 : z_gI q28 4 = -1 := by rw [e_q28]; exact h_q25
    exact x_k_Mo_takePlace_201 x1 q28 h_q28
  ·
    exact x_k_Mo_takePlace_201 (4 : Int32) q25 h_q25
set_option maxHeartbeats 4000000 in
set_option maxRecDepth 100000 in
def e_k_Mo_takePlace_91 (x1 : Int32) (q : z_Sg) : Option (Sum z_Dd z_Sg) :=
  (e_k_Mo_takePlace_92 x1 (0 : Int32) q)
theorem x_k_Mo_takePlace_91 (x1 : Int32) (q : z_Sg) (hq : z_gI q 4 = -1) : z_po (k_Mo_takePlace_91 x1 q) (z_X (fun o : z_Sg => o) (e_k_Mo_takePlace_91 x1 q)) := by
  unfold k_Mo_takePlace_91 e_k_Mo_takePlace_91
  exact x_k_Mo_takePlace_92 x1 (0 : Int32) q hq
set_option maxHeartbeats 4000000 in
set_option maxRecDepth 100000 in
def e_k_Mo_takePlace_62 (t0 : Int32) (q : z_Sg) : Option (Sum z_Dd z_Sg) :=
  (if (z_gI q 9) = (4 : Int32) then (z_eb (e_f_Mo_fetch q) (fun r10 => (z_nm (z_sI r10.2 12 (r10.1 / (64 : Int32))) (fun q11 => ((f_Mo_plus (2 : Int32) q11).bind (fun r12 => (z_nm (z_sI q11 14 (((r10.1 / (8 : Int32)) - (((r10.1 / (8 : Int32)) / (8 : Int32)) * (8 : Int32))) + r12)) (fun q13 => (if (z_gI q13 14) = (4 : Int32) then (z_nm (z_sI q13 14 (-1 : Int32)) (fun q22 => (e_k_Mo_takePlace_167 t0 r10.1 q22))) else (e_k_Mo_takePlace_167 t0 r10.1 q13)))))))))) else (if (z_gI q 9) = (5 : Int32) then (if (z_gI q 7) = 0 then (e_k_Mo_takePlace_92 t0 (1 : Int32) q) else (e_k_Mo_takePlace_91 t0 q)) else (e_k_Mo_takePlace_91 t0 q)))
theorem x_k_Mo_takePlace_62 (t0 : Int32) (q : z_Sg) (hq : z_gI q 4 = -1) : z_po (k_Mo_takePlace_62 t0 q) (z_X (fun o : z_Sg => o) (e_k_Mo_takePlace_62 t0 q)) := by
  unfold k_Mo_takePlace_62 e_k_Mo_takePlace_62
  refine X_i (fun _ => ?_) (fun _ => ?_)
  ·
    refine X_b (x_f_Mo_fetch q hq) (fun r10 h_r10 => ?_) (fun r10 h_r10 => ?_)
    rotate_left
    ·
      refine po_n (fun q11 e_q11 => ?_)
      have h_q11 : z_pn q11 = z_pn r10.2 := by rw [e_q11]; exact rfl
      refine po_b (R := fun _ => True) (fun _ _ => trivial) (fun r12 _ => ?_)
      refine po_n (fun q13 e_q13 => ?_)
      have h_q13 : z_pn q13 = z_pn r10.2 := by rw [e_q13]; exact h_q11
      refine po_i (fun _ => ?_) (fun _ => ?_)
      ·
        refine po_n (fun q22 e_q22 => ?_)
        have h_q22 : z_pn q22 = z_pn r10.2 := by rw [e_q22]; exact h_q13
        exact d_k_Mo_takePlace_167 r10.2 t0 r10.1 q22 h_q22 h_r10
      ·
        exact d_k_Mo_takePlace_167 r10.2 t0 r10.1 q13 h_q13 h_r10
    refine X_n (fun q11 e_q11 => ?_)
    have h_q11 : z_gI q11 4 = -1 := by rw [e_q11]; exact h_r10
    refine X_p (R := fun _ => True) (fun _ _ => trivial) (fun r12 _ => ?_)
    refine X_n (fun q13 e_q13 => ?_)
    have h_q13 : z_gI q13 4 = -1 := by rw [e_q13]; exact h_q11
    refine X_i (fun _ => ?_) (fun _ => ?_)
    ·
      refine X_n (fun q22 e_q22 => ?_)
      have h_q22 : z_gI q22 4 = -1 := by rw [e_q22]; exact h_q13
      exact x_k_Mo_takePlace_167 t0 r10.1 q22 h_q22
    ·
      exact x_k_Mo_takePlace_167 t0 r10.1 q13 h_q13
  ·
    refine X_i (fun _ => ?_) (fun _ => ?_)
    ·
      refine X_i (fun _ => ?_) (fun _ => ?_)
      ·
        exact x_k_Mo_takePlace_92 t0 (1 : Int32) q hq
      ·
        exact x_k_Mo_takePlace_91 t0 q hq
    ·
      exact x_k_Mo_takePlace_91 t0 q hq
set_option maxHeartbeats 4000000 in
set_option maxRecDepth 100000 in
def e_f_Mo_takePlace (q : z_Sg) : Option (Sum z_Dd z_Sg) :=
  (z_nm (z_sI q 13 (-1 : Int32)) (fun q1 => (z_nm (z_sI q1 14 (-1 : Int32)) (fun q2 => (z_nm (z_sI q2 17 (0 : Int32)) (fun q3 => (z_nm (z_sL q3 6 (0 : Int64)) (fun q4 => (if (z_gI q4 7) = (3 : Int32) then ((k_Mo_takePlace_36 q4).bind (fun o => some (.inr o))) else (if (z_gI q4 7) = (1 : Int32) then (e_k_Mo_takePlace_62 (1 : Int32) q4) else (if (z_gI q4 7) = (2 : Int32) then (e_k_Mo_takePlace_62 (4 : Int32) q4) else (e_k_Mo_takePlace_62 (0 : Int32) q4))))))))))))
theorem x_f_Mo_takePlace (q : z_Sg) (hq : z_gI q 4 = -1) : z_po (f_Mo_takePlace q) (z_X (fun o : z_Sg => o) (e_f_Mo_takePlace q)) := by
  unfold f_Mo_takePlace e_f_Mo_takePlace
  refine X_n (fun q1 e_q1 => ?_)
  have h_q1 : z_gI q1 4 = -1 := by rw [e_q1]; exact hq
  refine X_n (fun q2 e_q2 => ?_)
  have h_q2 : z_gI q2 4 = -1 := by rw [e_q2]; exact h_q1
  refine X_n (fun q3 e_q3 => ?_)
  have h_q3 : z_gI q3 4 = -1 := by rw [e_q3]; exact h_q2
  refine X_n (fun q4 e_q4 => ?_)
  have h_q4 : z_gI q4 4 = -1 := by rw [e_q4]; exact h_q3
  refine X_i (fun _ => ?_) (fun _ => ?_)
  ·
    exact X_t (d_k_Mo_takePlace_36 q4 q4 rfl) h_q4
  ·
    refine po_t h_q4 ?_
    refine X_i (fun _ => ?_) (fun _ => ?_)
    ·
      exact x_k_Mo_takePlace_62 (1 : Int32) q4 h_q4
    ·
      refine X_i (fun _ => ?_) (fun _ => ?_)
      ·
        exact x_k_Mo_takePlace_62 (4 : Int32) q4 h_q4
      ·
        exact x_k_Mo_takePlace_62 (0 : Int32) q4 h_q4
set_option maxHeartbeats 4000000 in
set_option maxRecDepth 100000 in
def e_f_Mo_takeOperand (q : z_Sg) : Option (Sum z_Dd z_Sg) :=
  (z_eb (e_f_Mo_takeMod q) (fun r1 => (z_eb (e_f_Mo_takePlace r1) (fun r2 => (z_nm (z_sL r2 7 ((z_gL r2 0) + (z_gI r2 6).toInt64)) (fun q3 => (some (.inr q3))))))))
theorem x_f_Mo_takeOperand (q : z_Sg) (hq : z_gI q 4 = -1) : z_po (f_Mo_takeOperand q) (z_X (fun o : z_Sg => o) (e_f_Mo_takeOperand q)) := by
  unfold f_Mo_takeOperand e_f_Mo_takeOperand
  refine X_b (x_f_Mo_takeMod q hq) (fun r1 h_r1 => ?_) (fun r1 h_r1 => ?_)
  rotate_left
  ·
    refine po_b (d_f_Mo_takePlace r1 r1 rfl h_r1) (fun r2 h_r2 => ?_)
    refine po_n (fun q3 e_q3 => ?_)
    have h_q3 : z_pn q3 = z_pn r1 := by rw [e_q3]; exact h_r2
    exact po_s h_q3
  refine X_b (x_f_Mo_takePlace r1 h_r1) (fun r2 h_r2 => ?_) (fun r2 h_r2 => ?_)
  rotate_left
  ·
    refine po_n (fun q3 e_q3 => ?_)
    have h_q3 : z_pn q3 = z_pn r2 := by rw [e_q3]; exact rfl
    exact po_s h_q3
  refine X_n (fun q3 e_q3 => ?_)
  have h_q3 : z_gI q3 4 = -1 := by rw [e_q3]; exact h_r2
  exact po_s (X_s h_q3)
set_option maxHeartbeats 4000000 in
set_option maxRecDepth 100000 in
def e_f_Mo_number (x1 : Int32) (q : z_Sg) : Option (Sum z_Dd (Int64 × z_Sg)) :=
  (z_eb (e_f_Mo_fetchNumber x1 q) (fun r1 => (z_nm (z_sL r1.2 7 ((z_gL r1.2 0) + (z_gI r1.2 6).toInt64)) (fun q2 => (some (.inr (r1.1, q2)))))))
theorem x_f_Mo_number (x1 : Int32) (q : z_Sg) (hq : z_gI q 4 = -1) : z_po (f_Mo_number x1 q) (z_X (fun o : (Int64 × z_Sg) => o.2) (e_f_Mo_number x1 q)) := by
  unfold f_Mo_number e_f_Mo_number
  refine X_b (x_f_Mo_fetchNumber x1 q hq) (fun r1 h_r1 => ?_) (fun r1 h_r1 => ?_)
  rotate_left
  ·
    refine po_n (fun q2 e_q2 => ?_)
    have h_q2 : z_pn q2 = z_pn r1.2 := by rw [e_q2]; exact rfl
    exact po_s h_q2
  refine X_n (fun q2 e_q2 => ?_)
  have h_q2 : z_gI q2 4 = -1 := by rw [e_q2]; exact h_r1
  exact po_s (X_s h_q2)
set_option maxHeartbeats 4000000 in
set_option maxRecDepth 100000 in
def e_f_Mo_e (x1 : Int32) (x2 : Int32) (q : z_Sg) : Option (Sum z_Dd (Int64 × z_Sg)) :=
  (if (z_gI q 7) = (3 : Int32) then ((f_Mo_plus (1 : Int32) q).bind (fun r7 => ((f_Mo_get8 ((z_gI q 9) + r7) x1 q).bind (fun r8 => (some (.inr (r8, q))))))) else ((f_Mo_place q).bind (fun r2 => ((f_Mo_ofStack q).bind (fun r3 => (z_eb (e_f_Mo_lookUp r2 x1 x2 r3 q) (fun r4 => ((f_Mo_held x1 r4).bind (fun r6 => ((k_Mo_e_55 r6 r4).bind (fun o => some (.inr o))))))))))))
theorem x_f_Mo_e (x1 : Int32) (x2 : Int32) (q : z_Sg) (hq : z_gI q 4 = -1) : z_po (f_Mo_e x1 x2 q) (z_X (fun o : (Int64 × z_Sg) => o.2) (e_f_Mo_e x1 x2 q)) := by
  unfold f_Mo_e e_f_Mo_e
  refine X_i (fun _ => ?_) (fun _ => ?_)
  ·
    refine X_p (R := fun _ => True) (fun _ _ => trivial) (fun r7 _ => ?_)
    refine X_p (R := fun _ => True) (fun _ _ => trivial) (fun r8 _ => ?_)
    exact po_s (X_s hq)
  ·
    refine X_p (R := fun _ => True) (fun _ _ => trivial) (fun r2 _ => ?_)
    refine X_p (R := fun _ => True) (fun _ _ => trivial) (fun r3 _ => ?_)
    refine X_b (x_f_Mo_lookUp r2 x1 x2 r3 q hq) (fun r4 h_r4 => ?_) (fun r4 h_r4 => ?_)
    rotate_left
    ·
      refine po_f (pn_d rfl h_r4) ?_
      exact d_k_Mo_e_55 r4 (0 : Int64) r4 rfl
    refine po_t h_r4 ?_
    refine X_p (R := fun _ => True) (fun _ _ => trivial) (fun r6 _ => ?_)
    exact X_t (d_k_Mo_e_55 r4 r6 r4 rfl) h_r4
set_option maxHeartbeats 4000000 in
set_option maxRecDepth 100000 in
def e_k_Mo_group_49 (x2 : Int32) (x3 : Int64) (t1 : Int32) (t3 : Int32) (t4 : Int32) (q : z_Sg) : Option (Sum z_Dd z_Sg) :=
  (z_eb (e_f_Mo_e t3 t4 q) (fun r7 => ((f_Mo_reckon t1 r7.1 x3 x2 r7.2).bind (fun r8 => (if (z_gI r8.2 8) = (7 : Int32) then ((k_Mo_group_75 r8.2).bind (fun o => some (.inr o))) else ((f_Mo_setE x2 r8.1 r8.2).bind (fun r10 => ((k_Mo_group_75 r10).bind (fun o => some (.inr o))))))))))
theorem x_k_Mo_group_49 (x2 : Int32) (x3 : Int64) (t1 : Int32) (t3 : Int32) (t4 : Int32) (q : z_Sg) (hq : z_gI q 4 = -1) : z_po (k_Mo_group_49 x2 x3 t1 t3 t4 q) (z_X (fun o : z_Sg => o) (e_k_Mo_group_49 x2 x3 t1 t3 t4 q)) := by
  unfold k_Mo_group_49 e_k_Mo_group_49
  refine X_b (x_f_Mo_e t3 t4 q hq) (fun r7 h_r7 => ?_) (fun r7 h_r7 => ?_)
  rotate_left
  ·
    refine po_b (d_f_Mo_reckon r7.2 t1 r7.1 x3 x2 r7.2 rfl) (fun r8 h_r8 => ?_)
    refine po_i (fun _ => ?_) (fun _ => ?_)
    ·
      exact d_k_Mo_group_75 r7.2 r8.2 h_r8
    ·
      refine po_b (d_f_Mo_setE r7.2 x2 r8.1 r8.2 h_r8) (fun r10 h_r10 => ?_)
      exact d_k_Mo_group_75 r7.2 r10 h_r10
  refine X_p (d_f_Mo_reckon r7.2 t1 r7.1 x3 x2 r7.2 rfl) (fun r8 k_r8 => ?_)
  have h_r8 : z_gI r8.2 4 = -1 := pn_a k_r8 h_r7
  refine X_i (fun _ => ?_) (fun _ => ?_)
  ·
    exact X_t (d_k_Mo_group_75 r8.2 r8.2 rfl) h_r8
  ·
    refine X_p (d_f_Mo_setE r8.2 x2 r8.1 r8.2 rfl) (fun r10 k_r10 => ?_)
    have h_r10 : z_gI r10 4 = -1 := pn_a k_r10 h_r8
    exact X_t (d_k_Mo_group_75 r10 r10 rfl) h_r10
set_option maxHeartbeats 4000000 in
set_option maxRecDepth 100000 in
def e_k_Mo_group_20 (x2 : Int32) (t1 : Int32) (q : z_Sg) : Option (Sum z_Dd z_Sg) :=
  (z_eb (e_f_Mo_number t1 q) (fun r4 => ((f_Mo_lowest r4.1 x2 r4.2).bind (fun r5 => (if (z_gI r4.2 8) = (7 : Int32) then (e_k_Mo_group_49 x2 r5 (z_gI r4.2 8) x2 (0 : Int32) r4.2) else (e_k_Mo_group_49 x2 r5 (z_gI r4.2 8) x2 (1 : Int32) r4.2))))))
theorem x_k_Mo_group_20 (x2 : Int32) (t1 : Int32) (q : z_Sg) (hq : z_gI q 4 = -1) : z_po (k_Mo_group_20 x2 t1 q) (z_X (fun o : z_Sg => o) (e_k_Mo_group_20 x2 t1 q)) := by
  unfold k_Mo_group_20 e_k_Mo_group_20
  refine X_b (x_f_Mo_number t1 q hq) (fun r4 h_r4 => ?_) (fun r4 h_r4 => ?_)
  rotate_left
  ·
    refine po_b (R := fun _ => True) (fun _ _ => trivial) (fun r5 _ => ?_)
    refine po_i (fun _ => ?_) (fun _ => ?_)
    ·
      exact d_k_Mo_group_49 r4.2 x2 r5 (z_gI r4.2 8) x2 (0 : Int32) r4.2 rfl h_r4
    ·
      exact d_k_Mo_group_49 r4.2 x2 r5 (z_gI r4.2 8) x2 (1 : Int32) r4.2 rfl h_r4
  refine X_p (R := fun _ => True) (fun _ _ => trivial) (fun r5 _ => ?_)
  refine X_i (fun _ => ?_) (fun _ => ?_)
  ·
    exact x_k_Mo_group_49 x2 r5 (z_gI r4.2 8) x2 (0 : Int32) r4.2 h_r4
  ·
    exact x_k_Mo_group_49 x2 r5 (z_gI r4.2 8) x2 (1 : Int32) r4.2 h_r4
set_option maxHeartbeats 4000000 in
set_option maxRecDepth 100000 in
def e_f_Mo_group (x1 : Int32) (x2 : Int32) (q : z_Sg) : Option (Sum z_Dd z_Sg) :=
  (z_eb (e_f_Mo_takeOperand q) (fun r1 => (if x1 = (131 : Int32) then (e_k_Mo_group_20 x2 (1 : Int32) r1) else ((f_Mo_four x2 r1).bind (fun r3 => (e_k_Mo_group_20 x2 r3 r1))))))
theorem x_f_Mo_group (x1 : Int32) (x2 : Int32) (q : z_Sg) (hq : z_gI q 4 = -1) : z_po (f_Mo_group x1 x2 q) (z_X (fun o : z_Sg => o) (e_f_Mo_group x1 x2 q)) := by
  unfold f_Mo_group e_f_Mo_group
  refine X_b (x_f_Mo_takeOperand q hq) (fun r1 h_r1 => ?_) (fun r1 h_r1 => ?_)
  rotate_left
  ·
    refine po_i (fun _ => ?_) (fun _ => ?_)
    ·
      exact d_k_Mo_group_20 r1 x2 (1 : Int32) r1 rfl h_r1
    ·
      refine po_b (R := fun _ => True) (fun _ _ => trivial) (fun r3 _ => ?_)
      exact d_k_Mo_group_20 r1 x2 r3 r1 rfl h_r1
  refine X_i (fun _ => ?_) (fun _ => ?_)
  ·
    exact x_k_Mo_group_20 x2 (1 : Int32) r1 h_r1
  ·
    refine X_p (R := fun _ => True) (fun _ _ => trivial) (fun r3 _ => ?_)
    exact x_k_Mo_group_20 x2 r3 r1 h_r1
set_option maxHeartbeats 4000000 in
set_option maxRecDepth 100000 in
def e_k_Mo_shift_88 (x2 : Int32) (t0 : Int32) (t1 : Int32) (q : z_Sg) : Option (Sum z_Dd z_Sg) :=
  (if t1 = 0 then none else (z_nm (t0 - ((t0 / t1) * t1)) (fun n10 => (z_eb (e_f_Mo_e x2 (1 : Int32) q) (fun r11 => (if n10 ≤ 0 then ((k_Mo_shift_148 x2 r11.1 r11.2).bind (fun o => some (.inr o))) else (if (4 : Int32) ≤ (z_gI r11.2 8) then ((f_Mo_shifted r11.1 n10 x2 r11.2).bind (fun r16 => ((k_Mo_shift_146 x2 r16.1 r16.2).bind (fun o => some (.inr o))))) else ((f_Mo_rotated r11.1 n10 x2 r11.2).bind (fun r17 => ((k_Mo_shift_146 x2 r17.1 r17.2).bind (fun o => some (.inr o))))))))))))
theorem x_k_Mo_shift_88 (x2 : Int32) (t0 : Int32) (t1 : Int32) (q : z_Sg) (hq : z_gI q 4 = -1) : z_po (k_Mo_shift_88 x2 t0 t1 q) (z_X (fun o : z_Sg => o) (e_k_Mo_shift_88 x2 t0 t1 q)) := by
  unfold k_Mo_shift_88 e_k_Mo_shift_88
  refine X_g (fun _ => ?_)
  refine X_n (fun n10 _ => ?_)
  refine X_b (x_f_Mo_e x2 (1 : Int32) q hq) (fun r11 h_r11 => ?_) (fun r11 h_r11 => ?_)
  rotate_left
  ·
    refine po_f (pn_d rfl h_r11) ?_
    exact po_s rfl
  refine po_t h_r11 ?_
  refine X_i (fun _ => ?_) (fun _ => ?_)
  ·
    exact X_t (d_k_Mo_shift_148 r11.2 x2 r11.1 r11.2 rfl) h_r11
  ·
    refine X_i (fun _ => ?_) (fun _ => ?_)
    ·
      refine X_p (d_f_Mo_shifted r11.2 r11.1 n10 x2 r11.2 rfl) (fun r16 k_r16 => ?_)
      have h_r16 : z_gI r16.2 4 = -1 := pn_a k_r16 h_r11
      exact X_t (d_k_Mo_shift_146 r16.2 x2 r16.1 r16.2 rfl) h_r16
    ·
      refine X_p (d_f_Mo_rotated r11.2 r11.1 n10 x2 r11.2 rfl) (fun r17 k_r17 => ?_)
      have h_r17 : z_gI r17.2 4 = -1 := pn_a k_r17 h_r11
      exact X_t (d_k_Mo_shift_146 r17.2 x2 r17.1 r17.2 rfl) h_r17
set_option maxHeartbeats 4000000 in
set_option maxRecDepth 100000 in
def e_k_Mo_shift_59 (x2 : Int32) (t0 : Int32) (q : z_Sg) : Option (Sum z_Dd z_Sg) :=
  (z_nm (z_sL q 7 ((z_gL q 0) + (z_gI q 6).toInt64)) (fun q7 => (if x2 = (8 : Int32) then (e_k_Mo_shift_88 x2 t0 (64 : Int32) q7) else (e_k_Mo_shift_88 x2 t0 (32 : Int32) q7))))
theorem x_k_Mo_shift_59 (x2 : Int32) (t0 : Int32) (q : z_Sg) (hq : z_gI q 4 = -1) : z_po (k_Mo_shift_59 x2 t0 q) (z_X (fun o : z_Sg => o) (e_k_Mo_shift_59 x2 t0 q)) := by
  unfold k_Mo_shift_59 e_k_Mo_shift_59
  refine X_n (fun q7 e_q7 => ?_)
  have h_q7 : z_gI q7 4 = -1 := by rw [e_q7]; exact hq
  refine X_i (fun _ => ?_) (fun _ => ?_)
  ·
    exact x_k_Mo_shift_88 x2 t0 (64 : Int32) q7 h_q7
  ·
    exact x_k_Mo_shift_88 x2 t0 (32 : Int32) q7 h_q7
set_option maxHeartbeats 4000000 in
set_option maxRecDepth 100000 in
def e_k_Mo_shift_19 (x1 : Int32) (x2 : Int32) (q : z_Sg) : Option (Sum z_Dd z_Sg) :=
  (z_eb (e_f_Mo_takePlace q) (fun r3 => (if (208 : Int32) ≤ x1 then (if (210 : Int32) ≤ x1 then (if (z_bad (1 : Int32) 16) then none else (e_k_Mo_shift_59 x2 ((z_gM r3 0 (1 : Int32).toNatClampNeg) &&& (255 : Int64)).toInt32 r3)) else (e_k_Mo_shift_59 x2 (1 : Int32) r3)) else (z_eb (e_f_Mo_fetch r3) (fun r18 => (e_k_Mo_shift_59 x2 r18.1 r18.2))))))
theorem x_k_Mo_shift_19 (x1 : Int32) (x2 : Int32) (q : z_Sg) (hq : z_gI q 4 = -1) : z_po (k_Mo_shift_19 x1 x2 q) (z_X (fun o : z_Sg => o) (e_k_Mo_shift_19 x1 x2 q)) := by
  unfold k_Mo_shift_19 e_k_Mo_shift_19
  refine X_b (x_f_Mo_takePlace q hq) (fun r3 h_r3 => ?_) (fun r3 h_r3 => ?_)
  rotate_left
  ·
    refine po_i (fun _ => ?_) (fun _ => ?_)
    ·
      refine po_i (fun _ => ?_) (fun _ => ?_)
      ·
        refine po_g (fun _ => ?_)
        exact d_k_Mo_shift_59 r3 x2 ((z_gM r3 0 (1 : Int32).toNatClampNeg) &&& (255 : Int64)).toInt32 r3 rfl h_r3
      ·
        exact d_k_Mo_shift_59 r3 x2 (1 : Int32) r3 rfl h_r3
    ·
      refine po_b (d_f_Mo_fetch r3 r3 rfl h_r3) (fun r18 h_r18 => ?_)
      exact d_k_Mo_shift_59 r3 x2 r18.1 r18.2 h_r18 h_r3
  refine X_i (fun _ => ?_) (fun _ => ?_)
  ·
    refine X_i (fun _ => ?_) (fun _ => ?_)
    ·
      refine X_g (fun _ => ?_)
      exact x_k_Mo_shift_59 x2 ((z_gM r3 0 (1 : Int32).toNatClampNeg) &&& (255 : Int64)).toInt32 r3 h_r3
    ·
      exact x_k_Mo_shift_59 x2 (1 : Int32) r3 h_r3
  ·
    refine X_b (x_f_Mo_fetch r3 h_r3) (fun r18 h_r18 => ?_) (fun r18 h_r18 => ?_)
    rotate_left
    ·
      exact d_k_Mo_shift_59 r18.2 x2 r18.1 r18.2 rfl h_r18
    exact x_k_Mo_shift_59 x2 r18.1 r18.2 h_r18
set_option maxHeartbeats 4000000 in
set_option maxRecDepth 100000 in
def e_f_Mo_shift (x1 : Int32) (x2 : Int32) (q : z_Sg) : Option (Sum z_Dd z_Sg) :=
  (z_eb (e_f_Mo_takeMod q) (fun r1 => (if (z_gI r1 8) = (6 : Int32) then (z_eb (e_f_Mo_refuse (6 : Int32) r1) (fun r19 => (e_k_Mo_shift_19 x1 x2 r19))) else (e_k_Mo_shift_19 x1 x2 r1))))
theorem x_f_Mo_shift (x1 : Int32) (x2 : Int32) (q : z_Sg) (hq : z_gI q 4 = -1) : z_po (f_Mo_shift x1 x2 q) (z_X (fun o : z_Sg => o) (e_f_Mo_shift x1 x2 q)) := by
  unfold f_Mo_shift e_f_Mo_shift
  refine X_b (x_f_Mo_takeMod q hq) (fun r1 h_r1 => ?_) (fun r1 h_r1 => ?_)
  rotate_left
  ·
    refine po_i (fun _ => ?_) (fun _ => ?_)
    ·
      refine po_b (d_f_Mo_refuse r1 (6 : Int32) r1 rfl h_r1) (fun r19 h_r19 => ?_)
      exact d_k_Mo_shift_19 r1 x1 x2 r19 h_r19 h_r1
    ·
      exact d_k_Mo_shift_19 r1 x1 x2 r1 rfl h_r1
  refine X_i (fun _ => ?_) (fun _ => ?_)
  ·
    refine X_b (x_f_Mo_refuse (6 : Int32) r1 h_r1) (fun r19 h_r19 => ?_) (fun r19 h_r19 => ?_)
    rotate_left
    ·
      exact d_k_Mo_shift_19 r19 x1 x2 r19 rfl h_r19
    exact x_k_Mo_shift_19 x1 x2 r19 h_r19
  ·
    exact x_k_Mo_shift_19 x1 x2 r1 h_r1
set_option maxHeartbeats 4000000 in
set_option maxRecDepth 100000 in
def e_k_Mo_divide_356 (x3 : Int32) (x8 : Int32) (x11 : Int32) (t0 : Int32) (q : z_Sg) : Option (Sum z_Dd z_Sg) :=
  (if t0 = 0 then (z_eb (e_f_Mo_refuse (0 : Int32) q) (fun r38 => ((k_Mo_divide_368 x3 x8 x11 r38).bind (fun o => some (.inr o))))) else ((k_Mo_divide_368 x3 x8 x11 q).bind (fun o => some (.inr o))))
theorem x_k_Mo_divide_356 (x3 : Int32) (x8 : Int32) (x11 : Int32) (t0 : Int32) (q : z_Sg) (hq : z_gI q 4 = -1) : z_po (k_Mo_divide_356 x3 x8 x11 t0 q) (z_X (fun o : z_Sg => o) (e_k_Mo_divide_356 x3 x8 x11 t0 q)) := by
  unfold k_Mo_divide_356 e_k_Mo_divide_356
  refine X_i (fun _ => ?_) (fun _ => ?_)
  ·
    refine X_b (x_f_Mo_refuse (0 : Int32) q hq) (fun r38 h_r38 => ?_) (fun r38 h_r38 => ?_)
    rotate_left
    ·
      exact d_k_Mo_divide_368 r38 x3 x8 x11 r38 rfl
    exact X_t (d_k_Mo_divide_368 r38 x3 x8 x11 r38 rfl) h_r38
  ·
    exact X_t (d_k_Mo_divide_368 q x3 x8 x11 q rfl) hq
set_option maxHeartbeats 4000000 in
set_option maxRecDepth 100000 in
def e_k_Mo_divide_351 (x3 : Int32) (x8 : Int32) (x11 : Int32) (q : z_Sg) : Option (Sum z_Dd z_Sg) :=
  (e_k_Mo_divide_356 x3 x8 x11 (1 : Int32) q)
theorem x_k_Mo_divide_351 (x3 : Int32) (x8 : Int32) (x11 : Int32) (q : z_Sg) (hq : z_gI q 4 = -1) : z_po (k_Mo_divide_351 x3 x8 x11 q) (z_X (fun o : z_Sg => o) (e_k_Mo_divide_351 x3 x8 x11 q)) := by
  unfold k_Mo_divide_351 e_k_Mo_divide_351
  exact x_k_Mo_divide_356 x3 x8 x11 (1 : Int32) q hq
set_option maxHeartbeats 4000000 in
set_option maxRecDepth 100000 in
def e_k_Mo_divide_355 (x3 : Int32) (x8 : Int32) (x11 : Int32) (q : z_Sg) : Option (Sum z_Dd z_Sg) :=
  (e_k_Mo_divide_356 x3 x8 x11 (0 : Int32) q)
theorem x_k_Mo_divide_355 (x3 : Int32) (x8 : Int32) (x11 : Int32) (q : z_Sg) (hq : z_gI q 4 = -1) : z_po (k_Mo_divide_355 x3 x8 x11 q) (z_X (fun o : z_Sg => o) (e_k_Mo_divide_355 x3 x8 x11 q)) := by
  unfold k_Mo_divide_355 e_k_Mo_divide_355
  exact x_k_Mo_divide_356 x3 x8 x11 (0 : Int32) q hq
set_option maxHeartbeats 4000000 in
set_option maxRecDepth 100000 in
def e_k_Mo_divide_313 (x3 : Int32) (x8 : Int32) (x11 : Int32) (q : z_Sg) : Option (Sum z_Dd z_Sg) :=
  (e_k_Mo_divide_356 x3 x8 x11 (1 : Int32) q)
theorem x_k_Mo_divide_313 (x3 : Int32) (x8 : Int32) (x11 : Int32) (q : z_Sg) (hq : z_gI q 4 = -1) : z_po (k_Mo_divide_313 x3 x8 x11 q) (z_X (fun o : z_Sg => o) (e_k_Mo_divide_313 x3 x8 x11 q)) := by
  unfold k_Mo_divide_313 e_k_Mo_divide_313
  exact x_k_Mo_divide_356 x3 x8 x11 (1 : Int32) q hq
set_option maxHeartbeats 4000000 in
set_option maxRecDepth 100000 in
def e_k_Mo_divide_272 (x3 : Int32) (x4 : Int32) (x8 : Int32) (x11 : Int32) (t0 : Int64) (t1 : Int32) (q : z_Sg) : Option (Sum z_Dd z_Sg) :=
  (z_nm (z_lushr t0 t1) (fun n21 => (z_nm ((z_gL q 8) - n21) (fun n22 => (if x4 = 0 then (if x3 = (8 : Int32) then (e_k_Mo_divide_313 x3 x8 x11 q) else (if (n21 + (-9223372036854775808 : Int64)) < ((z_gL q 8) + (-9223372036854775808 : Int64)) then (e_k_Mo_divide_356 x3 x8 x11 (0 : Int32) q) else (e_k_Mo_divide_313 x3 x8 x11 q))) else (if ((z_gL q 8) + (-9223372036854775808 : Int64)) ≤ (n21 + (-9223372036854775808 : Int64)) then (e_k_Mo_divide_351 x3 x8 x11 q) else (if x11 = 0 then (e_k_Mo_divide_355 x3 x8 x11 q) else (if n22 = (1 : Int64) then (e_k_Mo_divide_351 x3 x8 x11 q) else (e_k_Mo_divide_355 x3 x8 x11 q)))))))))
theorem x_k_Mo_divide_272 (x3 : Int32) (x4 : Int32) (x8 : Int32) (x11 : Int32) (t0 : Int64) (t1 : Int32) (q : z_Sg) (hq : z_gI q 4 = -1) : z_po (k_Mo_divide_272 x3 x4 x8 x11 t0 t1 q) (z_X (fun o : z_Sg => o) (e_k_Mo_divide_272 x3 x4 x8 x11 t0 t1 q)) := by
  unfold k_Mo_divide_272 e_k_Mo_divide_272
  refine X_n (fun n21 _ => ?_)
  refine X_n (fun n22 _ => ?_)
  refine X_i (fun _ => ?_) (fun _ => ?_)
  ·
    refine X_i (fun _ => ?_) (fun _ => ?_)
    ·
      exact x_k_Mo_divide_313 x3 x8 x11 q hq
    ·
      refine X_i (fun _ => ?_) (fun _ => ?_)
      ·
        exact x_k_Mo_divide_356 x3 x8 x11 (0 : Int32) q hq
      ·
        exact x_k_Mo_divide_313 x3 x8 x11 q hq
  ·
    refine X_i (fun _ => ?_) (fun _ => ?_)
    ·
      exact x_k_Mo_divide_351 x3 x8 x11 q hq
    ·
      refine X_i (fun _ => ?_) (fun _ => ?_)
      ·
        exact x_k_Mo_divide_355 x3 x8 x11 q hq
      ·
        refine X_i (fun _ => ?_) (fun _ => ?_)
        ·
          exact x_k_Mo_divide_351 x3 x8 x11 q hq
        ·
          exact x_k_Mo_divide_355 x3 x8 x11 q hq
set_option maxHeartbeats 4000000 in
set_option maxRecDepth 100000 in
def e_k_Mo_divide_241 (x3 : Int32) (x4 : Int32) (x8 : Int32) (x11 : Int32) (t1 : Int64) (q : z_Sg) : Option (Sum z_Dd z_Sg) :=
  ((f_Mo_quotient t1 (64 : Int32) q).bind (fun r17 => (if r17.1 = 0 then (z_eb (e_f_Mo_refuse (0 : Int32) r17.2) (fun r43 => (some (.inr r43)))) else ((f_Mo_lowest (-1 : Int64) x3 r17.2).bind (fun r19 => (if x4 = 0 then (e_k_Mo_divide_272 x3 x4 x8 x11 r19 (0 : Int32) r17.2) else (e_k_Mo_divide_272 x3 x4 x8 x11 r19 (1 : Int32) r17.2)))))))
theorem x_k_Mo_divide_241 (x3 : Int32) (x4 : Int32) (x8 : Int32) (x11 : Int32) (t1 : Int64) (q : z_Sg) (hq : z_gI q 4 = -1) : z_po (k_Mo_divide_241 x3 x4 x8 x11 t1 q) (z_X (fun o : z_Sg => o) (e_k_Mo_divide_241 x3 x4 x8 x11 t1 q)) := by
  unfold k_Mo_divide_241 e_k_Mo_divide_241
  refine X_p (d_f_Mo_quotient q t1 (64 : Int32) q rfl) (fun r17 k_r17 => ?_)
  have h_r17 : z_gI r17.2 4 = -1 := pn_a k_r17 hq
  refine X_i (fun _ => ?_) (fun _ => ?_)
  ·
    refine X_b (x_f_Mo_refuse (0 : Int32) r17.2 h_r17) (fun r43 h_r43 => ?_) (fun r43 h_r43 => ?_)
    rotate_left
    ·
      exact po_s rfl
    exact po_s (X_s h_r43)
  ·
    refine X_p (R := fun _ => True) (fun _ _ => trivial) (fun r19 _ => ?_)
    refine X_i (fun _ => ?_) (fun _ => ?_)
    ·
      exact x_k_Mo_divide_272 x3 x4 x8 x11 r19 (0 : Int32) r17.2 h_r17
    ·
      exact x_k_Mo_divide_272 x3 x4 x8 x11 r19 (1 : Int32) r17.2 h_r17
set_option maxHeartbeats 4000000 in
set_option maxRecDepth 100000 in
def e_k_Mo_divide_239 (x3 : Int32) (x4 : Int32) (x8 : Int32) (x9 : Int64) (x11 : Int32) (q : z_Sg) : Option (Sum z_Dd z_Sg) :=
  (e_k_Mo_divide_241 x3 x4 x8 x11 x9 q)
theorem x_k_Mo_divide_239 (x3 : Int32) (x4 : Int32) (x8 : Int32) (x9 : Int64) (x11 : Int32) (q : z_Sg) (hq : z_gI q 4 = -1) : z_po (k_Mo_divide_239 x3 x4 x8 x9 x11 q) (z_X (fun o : z_Sg => o) (e_k_Mo_divide_239 x3 x4 x8 x9 x11 q)) := by
  unfold k_Mo_divide_239 e_k_Mo_divide_239
  exact x_k_Mo_divide_241 x3 x4 x8 x11 x9 q hq
set_option maxHeartbeats 4000000 in
set_option maxRecDepth 100000 in
def e_k_Mo_divide_220 (x3 : Int32) (x4 : Int32) (x8 : Int32) (x9 : Int64) (x11 : Int32) (q : z_Sg) : Option (Sum z_Dd z_Sg) :=
  (if x4 = 0 then (e_k_Mo_divide_239 x3 x4 x8 x9 x11 q) else (if (0 : Int64) ≤ x9 then (e_k_Mo_divide_239 x3 x4 x8 x9 x11 q) else (e_k_Mo_divide_241 x3 x4 x8 x11 (-x9) q)))
theorem x_k_Mo_divide_220 (x3 : Int32) (x4 : Int32) (x8 : Int32) (x9 : Int64) (x11 : Int32) (q : z_Sg) (hq : z_gI q 4 = -1) : z_po (k_Mo_divide_220 x3 x4 x8 x9 x11 q) (z_X (fun o : z_Sg => o) (e_k_Mo_divide_220 x3 x4 x8 x9 x11 q)) := by
  unfold k_Mo_divide_220 e_k_Mo_divide_220
  refine X_i (fun _ => ?_) (fun _ => ?_)
  ·
    exact x_k_Mo_divide_239 x3 x4 x8 x9 x11 q hq
  ·
    refine X_i (fun _ => ?_) (fun _ => ?_)
    ·
      exact x_k_Mo_divide_239 x3 x4 x8 x9 x11 q hq
    ·
      exact x_k_Mo_divide_241 x3 x4 x8 x11 (-x9) q hq
set_option maxHeartbeats 4000000 in
set_option maxRecDepth 100000 in
def e_k_Mo_divide_209 (x3 : Int32) (x4 : Int32) (x8 : Int32) (x9 : Int64) (t0 : Int32) (q : z_Sg) : Option (Sum z_Dd z_Sg) :=
  (if x8 = 0 then (e_k_Mo_divide_220 x3 x4 x8 x9 t0 q) else ((f_Mo_turnSign q).bind (fun r45 => (e_k_Mo_divide_220 x3 x4 x8 x9 t0 r45))))
theorem x_k_Mo_divide_209 (x3 : Int32) (x4 : Int32) (x8 : Int32) (x9 : Int64) (t0 : Int32) (q : z_Sg) (hq : z_gI q 4 = -1) : z_po (k_Mo_divide_209 x3 x4 x8 x9 t0 q) (z_X (fun o : z_Sg => o) (e_k_Mo_divide_209 x3 x4 x8 x9 t0 q)) := by
  unfold k_Mo_divide_209 e_k_Mo_divide_209
  refine X_i (fun _ => ?_) (fun _ => ?_)
  ·
    exact x_k_Mo_divide_220 x3 x4 x8 x9 t0 q hq
  ·
    refine X_p (d_f_Mo_turnSign q q rfl) (fun r45 k_r45 => ?_)
    have h_r45 : z_gI r45 4 = -1 := pn_a k_r45 hq
    exact x_k_Mo_divide_220 x3 x4 x8 x9 t0 r45 h_r45
set_option maxHeartbeats 4000000 in
set_option maxRecDepth 100000 in
def e_k_Mo_divide_201 (x3 : Int32) (x4 : Int32) (x8 : Int32) (x9 : Int64) (t0 : Int32) (t1 : Int32) (q : z_Sg) : Option (Sum z_Dd z_Sg) :=
  (if t0 = t1 then (e_k_Mo_divide_209 x3 x4 x8 x9 (0 : Int32) q) else (e_k_Mo_divide_209 x3 x4 x8 x9 (1 : Int32) q))
theorem x_k_Mo_divide_201 (x3 : Int32) (x4 : Int32) (x8 : Int32) (x9 : Int64) (t0 : Int32) (t1 : Int32) (q : z_Sg) (hq : z_gI q 4 = -1) : z_po (k_Mo_divide_201 x3 x4 x8 x9 t0 t1 q) (z_X (fun o : z_Sg => o) (e_k_Mo_divide_201 x3 x4 x8 x9 t0 t1 q)) := by
  unfold k_Mo_divide_201 e_k_Mo_divide_201
  refine X_i (fun _ => ?_) (fun _ => ?_)
  ·
    exact x_k_Mo_divide_209 x3 x4 x8 x9 (0 : Int32) q hq
  ·
    exact x_k_Mo_divide_209 x3 x4 x8 x9 (1 : Int32) q hq
set_option maxHeartbeats 4000000 in
set_option maxRecDepth 100000 in
def e_k_Mo_divide_200 (x3 : Int32) (x4 : Int32) (x8 : Int32) (x9 : Int64) (t0 : Int32) (q : z_Sg) : Option (Sum z_Dd z_Sg) :=
  (e_k_Mo_divide_201 x3 x4 x8 x9 t0 (0 : Int32) q)
theorem x_k_Mo_divide_200 (x3 : Int32) (x4 : Int32) (x8 : Int32) (x9 : Int64) (t0 : Int32) (q : z_Sg) (hq : z_gI q 4 = -1) : z_po (k_Mo_divide_200 x3 x4 x8 x9 t0 q) (z_X (fun o : z_Sg => o) (e_k_Mo_divide_200 x3 x4 x8 x9 t0 q)) := by
  unfold k_Mo_divide_200 e_k_Mo_divide_200
  exact x_k_Mo_divide_201 x3 x4 x8 x9 t0 (0 : Int32) q hq
set_option maxHeartbeats 4000000 in
set_option maxRecDepth 100000 in
def e_k_Mo_divide_180 (x3 : Int32) (x4 : Int32) (x8 : Int32) (t0 : Int64) (q : z_Sg) : Option (Sum z_Dd z_Sg) :=
  (if x4 = 0 then (e_k_Mo_divide_200 x3 x4 x8 t0 x8 q) else (if (0 : Int64) ≤ t0 then (e_k_Mo_divide_200 x3 x4 x8 t0 x8 q) else (e_k_Mo_divide_201 x3 x4 x8 t0 x8 (1 : Int32) q)))
theorem x_k_Mo_divide_180 (x3 : Int32) (x4 : Int32) (x8 : Int32) (t0 : Int64) (q : z_Sg) (hq : z_gI q 4 = -1) : z_po (k_Mo_divide_180 x3 x4 x8 t0 q) (z_X (fun o : z_Sg => o) (e_k_Mo_divide_180 x3 x4 x8 t0 q)) := by
  unfold k_Mo_divide_180 e_k_Mo_divide_180
  refine X_i (fun _ => ?_) (fun _ => ?_)
  ·
    exact x_k_Mo_divide_200 x3 x4 x8 t0 x8 q hq
  ·
    refine X_i (fun _ => ?_) (fun _ => ?_)
    ·
      exact x_k_Mo_divide_200 x3 x4 x8 t0 x8 q hq
    ·
      exact x_k_Mo_divide_201 x3 x4 x8 t0 x8 (1 : Int32) q hq
set_option maxHeartbeats 4000000 in
set_option maxRecDepth 100000 in
def e_k_Mo_divide_164 (x1 : Int64) (x3 : Int32) (x4 : Int32) (t0 : Int32) (q : z_Sg) : Option (Sum z_Dd z_Sg) :=
  (if x4 = 0 then (e_k_Mo_divide_180 x3 x4 t0 x1 q) else ((f_Mo_extended x1 x3 q).bind (fun r47 => (e_k_Mo_divide_180 x3 x4 t0 r47 q))))
theorem x_k_Mo_divide_164 (x1 : Int64) (x3 : Int32) (x4 : Int32) (t0 : Int32) (q : z_Sg) (hq : z_gI q 4 = -1) : z_po (k_Mo_divide_164 x1 x3 x4 t0 q) (z_X (fun o : z_Sg => o) (e_k_Mo_divide_164 x1 x3 x4 t0 q)) := by
  unfold k_Mo_divide_164 e_k_Mo_divide_164
  refine X_i (fun _ => ?_) (fun _ => ?_)
  ·
    exact x_k_Mo_divide_180 x3 x4 t0 x1 q hq
  ·
    refine X_p (R := fun _ => True) (fun _ _ => trivial) (fun r47 _ => ?_)
    exact x_k_Mo_divide_180 x3 x4 t0 r47 q hq
set_option maxHeartbeats 4000000 in
set_option maxRecDepth 100000 in
def e_k_Mo_divide_163 (x1 : Int64) (x3 : Int32) (x4 : Int32) (q : z_Sg) : Option (Sum z_Dd z_Sg) :=
  (e_k_Mo_divide_164 x1 x3 x4 (0 : Int32) q)
theorem x_k_Mo_divide_163 (x1 : Int64) (x3 : Int32) (x4 : Int32) (q : z_Sg) (hq : z_gI q 4 = -1) : z_po (k_Mo_divide_163 x1 x3 x4 q) (z_X (fun o : z_Sg => o) (e_k_Mo_divide_163 x1 x3 x4 q)) := by
  unfold k_Mo_divide_163 e_k_Mo_divide_163
  exact x_k_Mo_divide_164 x1 x3 x4 (0 : Int32) q hq
set_option maxHeartbeats 4000000 in
set_option maxRecDepth 100000 in
def e_k_Mo_divide_145 (x1 : Int64) (x3 : Int32) (x4 : Int32) (q : z_Sg) : Option (Sum z_Dd z_Sg) :=
  (if x4 = 0 then (e_k_Mo_divide_163 x1 x3 x4 q) else (if (0 : Int64) ≤ (z_gL q 9) then (e_k_Mo_divide_163 x1 x3 x4 q) else (e_k_Mo_divide_164 x1 x3 x4 (1 : Int32) q)))
theorem x_k_Mo_divide_145 (x1 : Int64) (x3 : Int32) (x4 : Int32) (q : z_Sg) (hq : z_gI q 4 = -1) : z_po (k_Mo_divide_145 x1 x3 x4 q) (z_X (fun o : z_Sg => o) (e_k_Mo_divide_145 x1 x3 x4 q)) := by
  unfold k_Mo_divide_145 e_k_Mo_divide_145
  refine X_i (fun _ => ?_) (fun _ => ?_)
  ·
    exact x_k_Mo_divide_163 x1 x3 x4 q hq
  ·
    refine X_i (fun _ => ?_) (fun _ => ?_)
    ·
      exact x_k_Mo_divide_163 x1 x3 x4 q hq
    ·
      exact x_k_Mo_divide_164 x1 x3 x4 (1 : Int32) q hq
set_option maxHeartbeats 4000000 in
set_option maxRecDepth 100000 in
def e_k_Mo_divide_142 (x1 : Int64) (x3 : Int32) (x4 : Int32) (t1 : Int64) (q : z_Sg) : Option (Sum z_Dd z_Sg) :=
  (z_nm (z_sL q 9 t1) (fun q53 => (e_k_Mo_divide_145 x1 x3 x4 q53)))
theorem x_k_Mo_divide_142 (x1 : Int64) (x3 : Int32) (x4 : Int32) (t1 : Int64) (q : z_Sg) (hq : z_gI q 4 = -1) : z_po (k_Mo_divide_142 x1 x3 x4 t1 q) (z_X (fun o : z_Sg => o) (e_k_Mo_divide_142 x1 x3 x4 t1 q)) := by
  unfold k_Mo_divide_142 e_k_Mo_divide_142
  refine X_n (fun q53 e_q53 => ?_)
  have h_q53 : z_gI q53 4 = -1 := by rw [e_q53]; exact hq
  exact x_k_Mo_divide_145 x1 x3 x4 q53 h_q53
set_option maxHeartbeats 4000000 in
set_option maxRecDepth 100000 in
def e_k_Mo_divide_97 (x1 : Int64) (x3 : Int32) (x4 : Int32) (t1 : Int64) (q : z_Sg) : Option (Sum z_Dd z_Sg) :=
  (z_nm (z_sL q 8 t1) (fun q9 => (if x4 = 0 then (e_k_Mo_divide_145 x1 x3 x4 q9) else (if (8 : Int32) ≤ x3 then (e_k_Mo_divide_145 x1 x3 x4 q9) else ((f_Mo_extended (z_gL q9 8) ((2 : Int32) * x3) q9).bind (fun r50 => (z_nm (z_sL q9 8 r50) (fun q51 => (if (0 : Int64) ≤ (z_gL q51 8) then (e_k_Mo_divide_142 x1 x3 x4 (0 : Int64) q51) else (e_k_Mo_divide_142 x1 x3 x4 (-1 : Int64) q51))))))))))
theorem x_k_Mo_divide_97 (x1 : Int64) (x3 : Int32) (x4 : Int32) (t1 : Int64) (q : z_Sg) (hq : z_gI q 4 = -1) : z_po (k_Mo_divide_97 x1 x3 x4 t1 q) (z_X (fun o : z_Sg => o) (e_k_Mo_divide_97 x1 x3 x4 t1 q)) := by
  unfold k_Mo_divide_97 e_k_Mo_divide_97
  refine X_n (fun q9 e_q9 => ?_)
  have h_q9 : z_gI q9 4 = -1 := by rw [e_q9]; exact hq
  refine X_i (fun _ => ?_) (fun _ => ?_)
  ·
    exact x_k_Mo_divide_145 x1 x3 x4 q9 h_q9
  ·
    refine X_i (fun _ => ?_) (fun _ => ?_)
    ·
      exact x_k_Mo_divide_145 x1 x3 x4 q9 h_q9
    ·
      refine X_p (R := fun _ => True) (fun _ _ => trivial) (fun r50 _ => ?_)
      refine X_n (fun q51 e_q51 => ?_)
      have h_q51 : z_gI q51 4 = -1 := by rw [e_q51]; exact h_q9
      refine X_i (fun _ => ?_) (fun _ => ?_)
      ·
        exact x_k_Mo_divide_142 x1 x3 x4 (0 : Int64) q51 h_q51
      ·
        exact x_k_Mo_divide_142 x1 x3 x4 (-1 : Int64) q51 h_q51
set_option maxHeartbeats 4000000 in
set_option maxRecDepth 100000 in
def e_k_Mo_divide_76 (x1 : Int64) (x3 : Int32) (x4 : Int32) (x6 : Int64) (q : z_Sg) : Option (Sum z_Dd z_Sg) :=
  (e_k_Mo_divide_97 x1 x3 x4 x6 q)
theorem x_k_Mo_divide_76 (x1 : Int64) (x3 : Int32) (x4 : Int32) (x6 : Int64) (q : z_Sg) (hq : z_gI q 4 = -1) : z_po (k_Mo_divide_76 x1 x3 x4 x6 q) (z_X (fun o : z_Sg => o) (e_k_Mo_divide_76 x1 x3 x4 x6 q)) := by
  unfold k_Mo_divide_76 e_k_Mo_divide_76
  exact x_k_Mo_divide_97 x1 x3 x4 x6 q hq
set_option maxHeartbeats 4000000 in
set_option maxRecDepth 100000 in
def e_k_Mo_divide_61 (x1 : Int64) (x3 : Int32) (x4 : Int32) (x5 : Int32) (x6 : Int64) (t1 : Int64) (q : z_Sg) : Option (Sum z_Dd z_Sg) :=
  (z_nm (z_sL q 9 t1) (fun q7 => (if x3 = (1 : Int32) then (e_k_Mo_divide_76 x1 x3 x4 x6 q7) else (if x3 = (8 : Int32) then (e_k_Mo_divide_76 x1 x3 x4 x6 q7) else (if (z_bad (2 : Int32) 16) then none else ((f_Mo_lowest (z_gM q7 0 (2 : Int32).toNatClampNeg) x3 q7).bind (fun r56 => (e_k_Mo_divide_97 x1 x3 x4 ((z_lshl r56 x5) ||| x6) q7))))))))
theorem x_k_Mo_divide_61 (x1 : Int64) (x3 : Int32) (x4 : Int32) (x5 : Int32) (x6 : Int64) (t1 : Int64) (q : z_Sg) (hq : z_gI q 4 = -1) : z_po (k_Mo_divide_61 x1 x3 x4 x5 x6 t1 q) (z_X (fun o : z_Sg => o) (e_k_Mo_divide_61 x1 x3 x4 x5 x6 t1 q)) := by
  unfold k_Mo_divide_61 e_k_Mo_divide_61
  refine X_n (fun q7 e_q7 => ?_)
  have h_q7 : z_gI q7 4 = -1 := by rw [e_q7]; exact hq
  refine X_i (fun _ => ?_) (fun _ => ?_)
  ·
    exact x_k_Mo_divide_76 x1 x3 x4 x6 q7 h_q7
  ·
    refine X_i (fun _ => ?_) (fun _ => ?_)
    ·
      exact x_k_Mo_divide_76 x1 x3 x4 x6 q7 h_q7
    ·
      refine X_g (fun _ => ?_)
      refine X_p (R := fun _ => True) (fun _ _ => trivial) (fun r56 _ => ?_)
      exact x_k_Mo_divide_97 x1 x3 x4 ((z_lshl r56 x5) ||| x6) q7 h_q7
set_option maxHeartbeats 4000000 in
set_option maxRecDepth 100000 in
def e_k_Mo_divide_39 (x1 : Int64) (x3 : Int32) (x4 : Int32) (x5 : Int32) (t1 : Int32) (t2 : Int32) (q : z_Sg) : Option (Sum z_Dd z_Sg) :=
  ((f_Mo_get8 t1 t2 q).bind (fun r5 => (if x3 = (8 : Int32) then (if (z_bad (2 : Int32) 16) then none else (e_k_Mo_divide_61 x1 x3 x4 x5 r5 (z_gM q 0 (2 : Int32).toNatClampNeg) q)) else (e_k_Mo_divide_61 x1 x3 x4 x5 r5 (0 : Int64) q))))
theorem x_k_Mo_divide_39 (x1 : Int64) (x3 : Int32) (x4 : Int32) (x5 : Int32) (t1 : Int32) (t2 : Int32) (q : z_Sg) (hq : z_gI q 4 = -1) : z_po (k_Mo_divide_39 x1 x3 x4 x5 t1 t2 q) (z_X (fun o : z_Sg => o) (e_k_Mo_divide_39 x1 x3 x4 x5 t1 t2 q)) := by
  unfold k_Mo_divide_39 e_k_Mo_divide_39
  refine X_p (R := fun _ => True) (fun _ _ => trivial) (fun r5 _ => ?_)
  refine X_i (fun _ => ?_) (fun _ => ?_)
  ·
    refine X_g (fun _ => ?_)
    exact x_k_Mo_divide_61 x1 x3 x4 x5 r5 (z_gM q 0 (2 : Int32).toNatClampNeg) q hq
  ·
    exact x_k_Mo_divide_61 x1 x3 x4 x5 r5 (0 : Int64) q hq
set_option maxHeartbeats 4000000 in
set_option maxRecDepth 100000 in
def e_f_Mo_divide (x1 : Int64) (x3 : Int32) (x4 : Int32) (q : z_Sg) : Option (Sum z_Dd z_Sg) :=
  (if x1 = (0 : Int64) then (z_eb (e_f_Mo_refuse (0 : Int32) q) (fun r58 => (some (.inr r58)))) else (z_nm ((8 : Int32) * x3) (fun n3 => (if x3 = (1 : Int32) then (e_k_Mo_divide_39 x1 x3 x4 n3 (0 : Int32) (2 : Int32) q) else (e_k_Mo_divide_39 x1 x3 x4 n3 (0 : Int32) x3 q)))))
theorem x_f_Mo_divide (x1 : Int64) (x3 : Int32) (x4 : Int32) (q : z_Sg) (hq : z_gI q 4 = -1) : z_po (f_Mo_divide x1 x3 x4 q) (z_X (fun o : z_Sg => o) (e_f_Mo_divide x1 x3 x4 q)) := by
  unfold f_Mo_divide e_f_Mo_divide
  refine po_t hq ?_
  refine X_i (fun _ => ?_) (fun _ => ?_)
  ·
    refine X_b (x_f_Mo_refuse (0 : Int32) q hq) (fun r58 h_r58 => ?_) (fun r58 h_r58 => ?_)
    rotate_left
    ·
      exact po_s rfl
    exact po_s (X_s h_r58)
  ·
    refine X_n (fun n3 _ => ?_)
    refine X_i (fun _ => ?_) (fun _ => ?_)
    ·
      exact x_k_Mo_divide_39 x1 x3 x4 n3 (0 : Int32) (2 : Int32) q hq
    ·
      exact x_k_Mo_divide_39 x1 x3 x4 n3 (0 : Int32) x3 q hq
set_option maxHeartbeats 4000000 in
set_option maxRecDepth 100000 in
def e_k_Mo_unary_187 (t1 : Int64) (t2 : Int32) (t3 : Int32) (q : z_Sg) : Option (Sum z_Dd z_Sg) :=
  (z_eb (e_f_Mo_divide t1 t2 t3 q) (fun r11 => ((k_Mo_unary_190 r11).bind (fun o => some (.inr o)))))
theorem x_k_Mo_unary_187 (t1 : Int64) (t2 : Int32) (t3 : Int32) (q : z_Sg) (hq : z_gI q 4 = -1) : z_po (k_Mo_unary_187 t1 t2 t3 q) (z_X (fun o : z_Sg => o) (e_k_Mo_unary_187 t1 t2 t3 q)) := by
  unfold k_Mo_unary_187 e_k_Mo_unary_187
  refine X_b (x_f_Mo_divide t1 t2 t3 q hq) (fun r11 h_r11 => ?_) (fun r11 h_r11 => ?_)
  rotate_left
  ·
    exact d_k_Mo_unary_190 r11 r11 rfl
  exact X_t (d_k_Mo_unary_190 r11 r11 rfl) h_r11
set_option maxHeartbeats 4000000 in
set_option maxRecDepth 100000 in
def e_k_Mo_unary_18 (x1 : Int32) (q : z_Sg) : Option (Sum z_Dd z_Sg) :=
  (z_eb (e_f_Mo_takePlace q) (fun r3 => (z_nm (z_sL r3 7 ((z_gL r3 0) + (z_gI r3 6).toInt64)) (fun q4 => (if (z_gI q4 8) = 0 then ((f_Mo_four x1 q4).bind (fun r20 => (z_eb (e_f_Mo_number r20 q4) (fun r21 => ((f_Mo_lowest r21.1 x1 r21.2).bind (fun r22 => (z_eb (e_f_Mo_e x1 (0 : Int32) r21.2) (fun r23 => ((f_Mo_logic (r23.1 &&& r22) x1 r23.2).bind (fun r24 => ((k_Mo_unary_190 r24.2).bind (fun o => some (.inr o))))))))))))) else (if (z_gI q4 8) = (2 : Int32) then (z_eb (e_f_Mo_e x1 (1 : Int32) q4) (fun r18 => ((f_Mo_setE x1 (r18.1 ^^^ (-1 : Int64)) r18.2).bind (fun r19 => ((k_Mo_unary_190 r19).bind (fun o => some (.inr o))))))) else (if (z_gI q4 8) = (3 : Int32) then (z_eb (e_f_Mo_e x1 (1 : Int32) q4) (fun r15 => ((f_Mo_add (0 : Int64) r15.1 (0 : Int32) (1 : Int32) x1 r15.2).bind (fun r16 => ((f_Mo_setE x1 r16.1 r16.2).bind (fun r17 => ((k_Mo_unary_190 r17).bind (fun o => some (.inr o))))))))) else (if (6 : Int32) ≤ (z_gI q4 8) then (z_eb (e_f_Mo_e x1 (0 : Int32) q4) (fun r9 => (if (z_gI r9.2 8) = (7 : Int32) then (e_k_Mo_unary_187 r9.1 x1 (1 : Int32) r9.2) else (e_k_Mo_unary_187 r9.1 x1 (0 : Int32) r9.2)))) else (z_eb (e_f_Mo_e x1 (0 : Int32) q4) (fun r12 => (if (z_gI r12.2 8) = (5 : Int32) then ((k_Mo_unary_159 r12.1 x1 (1 : Int32) r12.2).bind (fun o => some (.inr o))) else ((k_Mo_unary_159 r12.1 x1 (0 : Int32) r12.2).bind (fun o => some (.inr o))))))))))))))
theorem x_k_Mo_unary_18 (x1 : Int32) (q : z_Sg) (hq : z_gI q 4 = -1) : z_po (k_Mo_unary_18 x1 q) (z_X (fun o : z_Sg => o) (e_k_Mo_unary_18 x1 q)) := by
  unfold k_Mo_unary_18 e_k_Mo_unary_18
  refine X_b (x_f_Mo_takePlace q hq) (fun r3 h_r3 => ?_) (fun r3 h_r3 => ?_)
  rotate_left
  ·
    refine po_n (fun q4 e_q4 => ?_)
    have h_q4 : z_pn q4 = z_pn r3 := by rw [e_q4]; exact rfl
    refine po_i (fun _ => ?_) (fun _ => ?_)
    ·
      refine po_b (R := fun _ => True) (fun _ _ => trivial) (fun r20 _ => ?_)
      refine po_b (d_f_Mo_number r3 r20 q4 h_q4 h_r3) (fun r21 h_r21 => ?_)
      refine po_b (R := fun _ => True) (fun _ _ => trivial) (fun r22 _ => ?_)
      refine po_b (d_f_Mo_e r3 x1 (0 : Int32) r21.2 h_r21 h_r3) (fun r23 h_r23 => ?_)
      refine po_b (d_f_Mo_logic r3 (r23.1 &&& r22) x1 r23.2 h_r23) (fun r24 h_r24 => ?_)
      exact d_k_Mo_unary_190 r3 r24.2 h_r24
    ·
      refine po_i (fun _ => ?_) (fun _ => ?_)
      ·
        refine po_b (d_f_Mo_e r3 x1 (1 : Int32) q4 h_q4 h_r3) (fun r18 h_r18 => ?_)
        refine po_b (d_f_Mo_setE r3 x1 (r18.1 ^^^ (-1 : Int64)) r18.2 h_r18) (fun r19 h_r19 => ?_)
        exact d_k_Mo_unary_190 r3 r19 h_r19
      ·
        refine po_i (fun _ => ?_) (fun _ => ?_)
        ·
          refine po_b (d_f_Mo_e r3 x1 (1 : Int32) q4 h_q4 h_r3) (fun r15 h_r15 => ?_)
          refine po_b (d_f_Mo_add r3 (0 : Int64) r15.1 (0 : Int32) (1 : Int32) x1 r15.2 h_r15) (fun r16 h_r16 => ?_)
          refine po_b (d_f_Mo_setE r3 x1 r16.1 r16.2 h_r16) (fun r17 h_r17 => ?_)
          exact d_k_Mo_unary_190 r3 r17 h_r17
        ·
          refine po_i (fun _ => ?_) (fun _ => ?_)
          ·
            refine po_b (d_f_Mo_e r3 x1 (0 : Int32) q4 h_q4 h_r3) (fun r9 h_r9 => ?_)
            refine po_i (fun _ => ?_) (fun _ => ?_)
            ·
              exact d_k_Mo_unary_187 r3 r9.1 x1 (1 : Int32) r9.2 h_r9 h_r3
            ·
              exact d_k_Mo_unary_187 r3 r9.1 x1 (0 : Int32) r9.2 h_r9 h_r3
          ·
            refine po_b (d_f_Mo_e r3 x1 (0 : Int32) q4 h_q4 h_r3) (fun r12 h_r12 => ?_)
            refine po_i (fun _ => ?_) (fun _ => ?_)
            ·
              exact d_k_Mo_unary_159 r3 r12.1 x1 (1 : Int32) r12.2 h_r12
            ·
              exact d_k_Mo_unary_159 r3 r12.1 x1 (0 : Int32) r12.2 h_r12
  refine X_n (fun q4 e_q4 => ?_)
  have h_q4 : z_gI q4 4 = -1 := by rw [e_q4]; exact h_r3
  refine X_i (fun _ => ?_) (fun _ => ?_)
  ·
    refine X_p (R := fun _ => True) (fun _ _ => trivial) (fun r20 _ => ?_)
    refine X_b (x_f_Mo_number r20 q4 h_q4) (fun r21 h_r21 => ?_) (fun r21 h_r21 => ?_)
    rotate_left
    ·
      refine po_b (R := fun _ => True) (fun _ _ => trivial) (fun r22 _ => ?_)
      refine po_b (d_f_Mo_e r21.2 x1 (0 : Int32) r21.2 rfl h_r21) (fun r23 h_r23 => ?_)
      refine po_b (d_f_Mo_logic r21.2 (r23.1 &&& r22) x1 r23.2 h_r23) (fun r24 h_r24 => ?_)
      exact d_k_Mo_unary_190 r21.2 r24.2 h_r24
    refine X_p (R := fun _ => True) (fun _ _ => trivial) (fun r22 _ => ?_)
    refine X_b (x_f_Mo_e x1 (0 : Int32) r21.2 h_r21) (fun r23 h_r23 => ?_) (fun r23 h_r23 => ?_)
    rotate_left
    ·
      refine po_b (d_f_Mo_logic r23.2 (r23.1 &&& r22) x1 r23.2 rfl) (fun r24 h_r24 => ?_)
      exact d_k_Mo_unary_190 r23.2 r24.2 h_r24
    refine X_p (d_f_Mo_logic r23.2 (r23.1 &&& r22) x1 r23.2 rfl) (fun r24 k_r24 => ?_)
    have h_r24 : z_gI r24.2 4 = -1 := pn_a k_r24 h_r23
    exact X_t (d_k_Mo_unary_190 r24.2 r24.2 rfl) h_r24
  ·
    refine X_i (fun _ => ?_) (fun _ => ?_)
    ·
      refine X_b (x_f_Mo_e x1 (1 : Int32) q4 h_q4) (fun r18 h_r18 => ?_) (fun r18 h_r18 => ?_)
      rotate_left
      ·
        refine po_b (d_f_Mo_setE r18.2 x1 (r18.1 ^^^ (-1 : Int64)) r18.2 rfl) (fun r19 h_r19 => ?_)
        exact d_k_Mo_unary_190 r18.2 r19 h_r19
      refine X_p (d_f_Mo_setE r18.2 x1 (r18.1 ^^^ (-1 : Int64)) r18.2 rfl) (fun r19 k_r19 => ?_)
      have h_r19 : z_gI r19 4 = -1 := pn_a k_r19 h_r18
      exact X_t (d_k_Mo_unary_190 r19 r19 rfl) h_r19
    ·
      refine X_i (fun _ => ?_) (fun _ => ?_)
      ·
        refine X_b (x_f_Mo_e x1 (1 : Int32) q4 h_q4) (fun r15 h_r15 => ?_) (fun r15 h_r15 => ?_)
        rotate_left
        ·
          refine po_b (d_f_Mo_add r15.2 (0 : Int64) r15.1 (0 : Int32) (1 : Int32) x1 r15.2 rfl) (fun r16 h_r16 => ?_)
          refine po_b (d_f_Mo_setE r15.2 x1 r16.1 r16.2 h_r16) (fun r17 h_r17 => ?_)
          exact d_k_Mo_unary_190 r15.2 r17 h_r17
        refine X_p (d_f_Mo_add r15.2 (0 : Int64) r15.1 (0 : Int32) (1 : Int32) x1 r15.2 rfl) (fun r16 k_r16 => ?_)
        have h_r16 : z_gI r16.2 4 = -1 := pn_a k_r16 h_r15
        refine X_p (d_f_Mo_setE r16.2 x1 r16.1 r16.2 rfl) (fun r17 k_r17 => ?_)
        have h_r17 : z_gI r17 4 = -1 := pn_a k_r17 h_r16
        exact X_t (d_k_Mo_unary_190 r17 r17 rfl) h_r17
      ·
        refine X_i (fun _ => ?_) (fun _ => ?_)
        ·
          refine X_b (x_f_Mo_e x1 (0 : Int32) q4 h_q4) (fun r9 h_r9 => ?_) (fun r9 h_r9 => ?_)
          rotate_left
          ·
            refine po_i (fun _ => ?_) (fun _ => ?_)
            ·
              exact d_k_Mo_unary_187 r9.2 r9.1 x1 (1 : Int32) r9.2 rfl h_r9
            ·
              exact d_k_Mo_unary_187 r9.2 r9.1 x1 (0 : Int32) r9.2 rfl h_r9
          refine X_i (fun _ => ?_) (fun _ => ?_)
          ·
            exact x_k_Mo_unary_187 r9.1 x1 (1 : Int32) r9.2 h_r9
          ·
            exact x_k_Mo_unary_187 r9.1 x1 (0 : Int32) r9.2 h_r9
        ·
          refine X_b (x_f_Mo_e x1 (0 : Int32) q4 h_q4) (fun r12 h_r12 => ?_) (fun r12 h_r12 => ?_)
          rotate_left
          ·
            refine po_i (fun _ => ?_) (fun _ => ?_)
            ·
              exact d_k_Mo_unary_159 r12.2 r12.1 x1 (1 : Int32) r12.2 rfl
            ·
              exact d_k_Mo_unary_159 r12.2 r12.1 x1 (0 : Int32) r12.2 rfl
          refine X_i (fun _ => ?_) (fun _ => ?_)
          ·
            exact X_t (d_k_Mo_unary_159 r12.2 r12.1 x1 (1 : Int32) r12.2 rfl) h_r12
          ·
            exact X_t (d_k_Mo_unary_159 r12.2 r12.1 x1 (0 : Int32) r12.2 rfl) h_r12
set_option maxHeartbeats 4000000 in
set_option maxRecDepth 100000 in
def e_f_Mo_unary (x1 : Int32) (q : z_Sg) : Option (Sum z_Dd z_Sg) :=
  (z_eb (e_f_Mo_takeMod q) (fun r1 => (if (z_gI r1 8) = (1 : Int32) then (z_eb (e_f_Mo_refuse (6 : Int32) r1) (fun r25 => (e_k_Mo_unary_18 x1 r25))) else (e_k_Mo_unary_18 x1 r1))))
theorem x_f_Mo_unary (x1 : Int32) (q : z_Sg) (hq : z_gI q 4 = -1) : z_po (f_Mo_unary x1 q) (z_X (fun o : z_Sg => o) (e_f_Mo_unary x1 q)) := by
  unfold f_Mo_unary e_f_Mo_unary
  refine X_b (x_f_Mo_takeMod q hq) (fun r1 h_r1 => ?_) (fun r1 h_r1 => ?_)
  rotate_left
  ·
    refine po_i (fun _ => ?_) (fun _ => ?_)
    ·
      refine po_b (d_f_Mo_refuse r1 (6 : Int32) r1 rfl h_r1) (fun r25 h_r25 => ?_)
      exact d_k_Mo_unary_18 r1 x1 r25 h_r25 h_r1
    ·
      exact d_k_Mo_unary_18 r1 x1 r1 rfl h_r1
  refine X_i (fun _ => ?_) (fun _ => ?_)
  ·
    refine X_b (x_f_Mo_refuse (6 : Int32) r1 h_r1) (fun r25 h_r25 => ?_) (fun r25 h_r25 => ?_)
    rotate_left
    ·
      exact d_k_Mo_unary_18 r25 x1 r25 rfl h_r25
    exact x_k_Mo_unary_18 x1 r25 h_r25
  ·
    exact x_k_Mo_unary_18 x1 r1 h_r1
set_option maxHeartbeats 4000000 in
set_option maxRecDepth 100000 in
def e_f_Mo_push (x1 : Int64) (x3 : Int32) (q : z_Sg) : Option (Sum z_Dd z_Sg) :=
  (if (z_bad (4 : Int32) 16) then none else (z_eb (e_f_Mo_lookUp ((z_gM q 0 (4 : Int32).toNatClampNeg) - x3.toInt64) x3 (1 : Int32) (1 : Int32) q) (fun r2 => (if (z_bad (4 : Int32) 16) then none else (if (z_bad (4 : Int32) 16) then none else (z_nm (z_sM r2 0 (4 : Int32).toNatClampNeg ((z_gM r2 0 (4 : Int32).toNatClampNeg) - x3.toInt64)) (fun q6 => ((f_Mo_hold x1 x3 q6).bind (fun r7 => (some (.inr r7)))))))))))
theorem x_f_Mo_push (x1 : Int64) (x3 : Int32) (q : z_Sg) (hq : z_gI q 4 = -1) : z_po (f_Mo_push x1 x3 q) (z_X (fun o : z_Sg => o) (e_f_Mo_push x1 x3 q)) := by
  unfold f_Mo_push e_f_Mo_push
  refine X_g (fun _ => ?_)
  refine X_b (x_f_Mo_lookUp ((z_gM q 0 (4 : Int32).toNatClampNeg) - x3.toInt64) x3 (1 : Int32) (1 : Int32) q hq) (fun r2 h_r2 => ?_) (fun r2 h_r2 => ?_)
  rotate_left
  ·
    refine po_f (pn_d rfl h_r2) ?_
    exact po_s rfl
  refine po_t h_r2 ?_
  refine X_g (fun _ => ?_)
  refine X_g (fun _ => ?_)
  refine X_n (fun q6 e_q6 => ?_)
  have h_q6 : z_gI q6 4 = -1 := by rw [e_q6]; exact h_r2
  refine X_p (d_f_Mo_hold q6 x1 x3 q6 rfl) (fun r7 k_r7 => ?_)
  have h_r7 : z_gI r7 4 = -1 := pn_a k_r7 h_q6
  exact po_s (X_s h_r7)
set_option maxHeartbeats 4000000 in
set_option maxRecDepth 100000 in
def e_f_Mo_jump (x1 : Int64) (q : z_Sg) : Option (Sum z_Dd z_Sg) :=
  ((f_Mo_isWrong x1 q).bind (fun r1 => (if r1 = 0 then (z_nm (z_sL q 7 x1) (fun q3 => ((k_Mo_jump_21 q3).bind (fun o => some (.inr o))))) else (z_eb (e_f_Mo_refuse (13 : Int32) q) (fun r4 => ((k_Mo_jump_21 r4).bind (fun o => some (.inr o))))))))
theorem x_f_Mo_jump (x1 : Int64) (q : z_Sg) (hq : z_gI q 4 = -1) : z_po (f_Mo_jump x1 q) (z_X (fun o : z_Sg => o) (e_f_Mo_jump x1 q)) := by
  unfold f_Mo_jump e_f_Mo_jump
  refine X_p (R := fun _ => True) (fun _ _ => trivial) (fun r1 _ => ?_)
  refine X_i (fun _ => ?_) (fun _ => ?_)
  ·
    refine X_n (fun q3 e_q3 => ?_)
    have h_q3 : z_gI q3 4 = -1 := by rw [e_q3]; exact hq
    exact X_t (d_k_Mo_jump_21 q3 q3 rfl) h_q3
  ·
    refine X_b (x_f_Mo_refuse (13 : Int32) q hq) (fun r4 h_r4 => ?_) (fun r4 h_r4 => ?_)
    rotate_left
    ·
      exact d_k_Mo_jump_21 r4 r4 rfl
    exact X_t (d_k_Mo_jump_21 r4 r4 rfl) h_r4
set_option maxHeartbeats 4000000 in
set_option maxRecDepth 100000 in
def e_k_Mo_more_209 (x3 : Int64) (q : z_Sg) : Option (Sum z_Dd z_Sg) :=
  (if (z_gI q 8) = (2 : Int32) then (z_eb (e_f_Mo_push x3 (8 : Int32) q) (fun r13 => ((k_Mo_more_224 r13).bind (fun o => some (.inr o))))) else ((k_Mo_more_224 q).bind (fun o => some (.inr o))))
theorem x_k_Mo_more_209 (x3 : Int64) (q : z_Sg) (hq : z_gI q 4 = -1) : z_po (k_Mo_more_209 x3 q) (z_X (fun o : z_Sg => o) (e_k_Mo_more_209 x3 q)) := by
  unfold k_Mo_more_209 e_k_Mo_more_209
  refine X_i (fun _ => ?_) (fun _ => ?_)
  ·
    refine X_b (x_f_Mo_push x3 (8 : Int32) q hq) (fun r13 h_r13 => ?_) (fun r13 h_r13 => ?_)
    rotate_left
    ·
      exact d_k_Mo_more_224 r13 r13 rfl
    exact X_t (d_k_Mo_more_224 r13 r13 rfl) h_r13
  ·
    exact X_t (d_k_Mo_more_224 q q rfl) hq
set_option maxHeartbeats 4000000 in
set_option maxRecDepth 100000 in
def e_k_Mo_more_65 (x1 : Int32) (q : z_Sg) : Option (Sum z_Dd z_Sg) :=
  (z_eb (e_f_Mo_takePlace q) (fun r4 => (z_nm (z_sL r4 7 ((z_gL r4 0) + (z_gI r4 6).toInt64)) (fun q5 => (if (2 : Int32) ≤ (z_gI q5 8) then (if (z_gI q5 8) = (6 : Int32) then ((f_Mo_stackSize q5).bind (fun r15 => (z_eb (e_f_Mo_e r15 (0 : Int32) q5) (fun r16 => ((f_Mo_stackSize r16.2).bind (fun r17 => (z_eb (e_f_Mo_push r16.1 r17 r16.2) (fun r18 => ((k_Mo_more_224 r18).bind (fun o => some (.inr o))))))))))) else (z_nm (z_gL q5 7) (fun n9 => (z_eb (e_f_Mo_e (8 : Int32) (0 : Int32) q5) (fun r10 => (z_eb (e_f_Mo_jump r10.1 r10.2) (fun r14 => (e_k_Mo_more_209 n9 r14)))))))) else (if (z_bad (0 : Int32) 7) then none else (z_nm (z_gN q5 1 (0 : Int32).toNatClampNeg) (fun n20 => (z_eb (e_f_Mo_e x1 (1 : Int32) q5) (fun r21 => (if (z_gI r21.2 8) = (1 : Int32) then ((k_Mo_more_129 x1 n20 r21.1 (1 : Int64) (0 : Int32) (1 : Int32) r21.2).bind (fun o => some (.inr o))) else ((k_Mo_more_129 x1 n20 r21.1 (1 : Int64) (0 : Int32) (0 : Int32) r21.2).bind (fun o => some (.inr o))))))))))))))
theorem x_k_Mo_more_65 (x1 : Int32) (q : z_Sg) (hq : z_gI q 4 = -1) : z_po (k_Mo_more_65 x1 q) (z_X (fun o : z_Sg => o) (e_k_Mo_more_65 x1 q)) := by
  unfold k_Mo_more_65 e_k_Mo_more_65
  refine X_b (x_f_Mo_takePlace q hq) (fun r4 h_r4 => ?_) (fun r4 h_r4 => ?_)
  rotate_left
  ·
    refine po_n (fun q5 e_q5 => ?_)
    have h_q5 : z_pn q5 = z_pn r4 := by rw [e_q5]; exact rfl
    refine po_f (pn_d h_q5 h_r4) ?_
    exact po_s h_q5
  refine X_n (fun q5 e_q5 => ?_)
  have h_q5 : z_gI q5 4 = -1 := by rw [e_q5]; exact h_r4
  refine po_t h_q5 ?_
  refine X_i (fun _ => ?_) (fun _ => ?_)
  ·
    refine X_i (fun _ => ?_) (fun _ => ?_)
    ·
      refine X_p (R := fun _ => True) (fun _ _ => trivial) (fun r15 _ => ?_)
      refine X_b (x_f_Mo_e r15 (0 : Int32) q5 h_q5) (fun r16 h_r16 => ?_) (fun r16 h_r16 => ?_)
      rotate_left
      ·
        refine po_b (R := fun _ => True) (fun _ _ => trivial) (fun r17 _ => ?_)
        refine po_b (d_f_Mo_push r16.2 r16.1 r17 r16.2 rfl h_r16) (fun r18 h_r18 => ?_)
        exact d_k_Mo_more_224 r16.2 r18 h_r18
      refine X_p (R := fun _ => True) (fun _ _ => trivial) (fun r17 _ => ?_)
      refine X_b (x_f_Mo_push r16.1 r17 r16.2 h_r16) (fun r18 h_r18 => ?_) (fun r18 h_r18 => ?_)
      rotate_left
      ·
        exact d_k_Mo_more_224 r18 r18 rfl
      exact X_t (d_k_Mo_more_224 r18 r18 rfl) h_r18
    ·
      refine X_n (fun n9 _ => ?_)
      refine X_b (x_f_Mo_e (8 : Int32) (0 : Int32) q5 h_q5) (fun r10 h_r10 => ?_) (fun r10 h_r10 => ?_)
      rotate_left
      ·
        refine po_f (pn_d rfl h_r10) ?_
        exact d_k_Mo_more_209 r10.2 n9 r10.2 rfl h_r10
      refine po_t h_r10 ?_
      refine X_b (x_f_Mo_jump r10.1 r10.2 h_r10) (fun r14 h_r14 => ?_) (fun r14 h_r14 => ?_)
      rotate_left
      ·
        exact d_k_Mo_more_209 r14 n9 r14 rfl h_r14
      exact x_k_Mo_more_209 n9 r14 h_r14
  ·
    refine X_g (fun _ => ?_)
    refine X_n (fun n20 _ => ?_)
    refine X_b (x_f_Mo_e x1 (1 : Int32) q5 h_q5) (fun r21 h_r21 => ?_) (fun r21 h_r21 => ?_)
    rotate_left
    ·
      refine po_i (fun _ => ?_) (fun _ => ?_)
      ·
        exact d_k_Mo_more_129 r21.2 x1 n20 r21.1 (1 : Int64) (0 : Int32) (1 : Int32) r21.2 rfl
      ·
        exact d_k_Mo_more_129 r21.2 x1 n20 r21.1 (1 : Int64) (0 : Int32) (0 : Int32) r21.2 rfl
    refine X_i (fun _ => ?_) (fun _ => ?_)
    ·
      exact X_t (d_k_Mo_more_129 r21.2 x1 n20 r21.1 (1 : Int64) (0 : Int32) (1 : Int32) r21.2 rfl) h_r21
    ·
      exact X_t (d_k_Mo_more_129 r21.2 x1 n20 r21.1 (1 : Int64) (0 : Int32) (0 : Int32) r21.2 rfl) h_r21
set_option maxHeartbeats 4000000 in
set_option maxRecDepth 100000 in
def e_k_Mo_more_54 (x1 : Int32) (t0 : Int32) (q : z_Sg) : Option (Sum z_Dd z_Sg) :=
  (if t0 = 0 then (z_eb (e_f_Mo_refuse (6 : Int32) q) (fun r27 => (e_k_Mo_more_65 x1 r27))) else (e_k_Mo_more_65 x1 q))
theorem x_k_Mo_more_54 (x1 : Int32) (t0 : Int32) (q : z_Sg) (hq : z_gI q 4 = -1) : z_po (k_Mo_more_54 x1 t0 q) (z_X (fun o : z_Sg => o) (e_k_Mo_more_54 x1 t0 q)) := by
  unfold k_Mo_more_54 e_k_Mo_more_54
  refine X_i (fun _ => ?_) (fun _ => ?_)
  ·
    refine X_b (x_f_Mo_refuse (6 : Int32) q hq) (fun r27 h_r27 => ?_) (fun r27 h_r27 => ?_)
    rotate_left
    ·
      exact d_k_Mo_more_65 r27 x1 r27 rfl h_r27
    exact x_k_Mo_more_65 x1 r27 h_r27
  ·
    exact x_k_Mo_more_65 x1 q hq
set_option maxHeartbeats 4000000 in
set_option maxRecDepth 100000 in
def e_k_Mo_more_49 (x1 : Int32) (q : z_Sg) : Option (Sum z_Dd z_Sg) :=
  (e_k_Mo_more_54 x1 (1 : Int32) q)
theorem x_k_Mo_more_49 (x1 : Int32) (q : z_Sg) (hq : z_gI q 4 = -1) : z_po (k_Mo_more_49 x1 q) (z_X (fun o : z_Sg => o) (e_k_Mo_more_49 x1 q)) := by
  unfold k_Mo_more_49 e_k_Mo_more_49
  exact x_k_Mo_more_54 x1 (1 : Int32) q hq
set_option maxHeartbeats 4000000 in
set_option maxRecDepth 100000 in
def e_k_Mo_more_53 (x1 : Int32) (q : z_Sg) : Option (Sum z_Dd z_Sg) :=
  (e_k_Mo_more_54 x1 (0 : Int32) q)
theorem x_k_Mo_more_53 (x1 : Int32) (q : z_Sg) (hq : z_gI q 4 = -1) : z_po (k_Mo_more_53 x1 q) (z_X (fun o : z_Sg => o) (e_k_Mo_more_53 x1 q)) := by
  unfold k_Mo_more_53 e_k_Mo_more_53
  exact x_k_Mo_more_54 x1 (0 : Int32) q hq
set_option maxHeartbeats 4000000 in
set_option maxRecDepth 100000 in
def e_k_Mo_more_42 (x1 : Int32) (q : z_Sg) : Option (Sum z_Dd z_Sg) :=
  (if (z_gI q 16) = 0 then (e_k_Mo_more_49 x1 q) else (e_k_Mo_more_53 x1 q))
theorem x_k_Mo_more_42 (x1 : Int32) (q : z_Sg) (hq : z_gI q 4 = -1) : z_po (k_Mo_more_42 x1 q) (z_X (fun o : z_Sg => o) (e_k_Mo_more_42 x1 q)) := by
  unfold k_Mo_more_42 e_k_Mo_more_42
  refine X_i (fun _ => ?_) (fun _ => ?_)
  ·
    exact x_k_Mo_more_49 x1 q hq
  ·
    exact x_k_Mo_more_53 x1 q hq
set_option maxHeartbeats 4000000 in
set_option maxRecDepth 100000 in
def e_f_Mo_more (x1 : Int32) (q : z_Sg) : Option (Sum z_Dd z_Sg) :=
  (z_eb (e_f_Mo_takeMod q) (fun r1 => (if (z_gI r1 8) < (2 : Int32) then (e_k_Mo_more_49 x1 r1) else (if x1 ≤ (1 : Int32) then (e_k_Mo_more_53 x1 r1) else (if (z_gI r1 8) = (6 : Int32) then (e_k_Mo_more_49 x1 r1) else (if (z_gI r1 8) = (2 : Int32) then (e_k_Mo_more_42 x1 r1) else (if (z_gI r1 8) = (4 : Int32) then (e_k_Mo_more_42 x1 r1) else (e_k_Mo_more_53 x1 r1))))))))
theorem x_f_Mo_more (x1 : Int32) (q : z_Sg) (hq : z_gI q 4 = -1) : z_po (f_Mo_more x1 q) (z_X (fun o : z_Sg => o) (e_f_Mo_more x1 q)) := by
  unfold f_Mo_more e_f_Mo_more
  refine X_b (x_f_Mo_takeMod q hq) (fun r1 h_r1 => ?_) (fun r1 h_r1 => ?_)
  rotate_left
  ·
    refine po_i (fun _ => ?_) (fun _ => ?_)
    ·
      exact d_k_Mo_more_49 r1 x1 r1 rfl h_r1
    ·
      refine po_i (fun _ => ?_) (fun _ => ?_)
      ·
        exact d_k_Mo_more_53 r1 x1 r1 rfl h_r1
      ·
        refine po_i (fun _ => ?_) (fun _ => ?_)
        ·
          exact d_k_Mo_more_49 r1 x1 r1 rfl h_r1
        ·
          refine po_i (fun _ => ?_) (fun _ => ?_)
          ·
            exact d_k_Mo_more_42 r1 x1 r1 rfl h_r1
          ·
            refine po_i (fun _ => ?_) (fun _ => ?_)
            ·
              exact d_k_Mo_more_42 r1 x1 r1 rfl h_r1
            ·
              exact d_k_Mo_more_53 r1 x1 r1 rfl h_r1
  refine X_i (fun _ => ?_) (fun _ => ?_)
  ·
    exact x_k_Mo_more_49 x1 r1 h_r1
  ·
    refine X_i (fun _ => ?_) (fun _ => ?_)
    ·
      exact x_k_Mo_more_53 x1 r1 h_r1
    ·
      refine X_i (fun _ => ?_) (fun _ => ?_)
      ·
        exact x_k_Mo_more_49 x1 r1 h_r1
      ·
        refine X_i (fun _ => ?_) (fun _ => ?_)
        ·
          exact x_k_Mo_more_42 x1 r1 h_r1
        ·
          refine X_i (fun _ => ?_) (fun _ => ?_)
          ·
            exact x_k_Mo_more_42 x1 r1 h_r1
          ·
            exact x_k_Mo_more_53 x1 r1 h_r1
set_option maxHeartbeats 4000000 in
set_option maxRecDepth 100000 in
def e_k_Mo_pushNumber_25 (t2 : Int32) (q : z_Sg) : Option (Sum z_Dd z_Sg) :=
  (z_eb (e_f_Mo_number t2 q) (fun r4 => ((f_Mo_stackSize r4.2).bind (fun r5 => (z_eb (e_f_Mo_push r4.1 r5 r4.2) (fun r6 => (some (.inr r6))))))))
theorem x_k_Mo_pushNumber_25 (t2 : Int32) (q : z_Sg) (hq : z_gI q 4 = -1) : z_po (k_Mo_pushNumber_25 t2 q) (z_X (fun o : z_Sg => o) (e_k_Mo_pushNumber_25 t2 q)) := by
  unfold k_Mo_pushNumber_25 e_k_Mo_pushNumber_25
  refine X_b (x_f_Mo_number t2 q hq) (fun r4 h_r4 => ?_) (fun r4 h_r4 => ?_)
  rotate_left
  ·
    refine po_b (R := fun _ => True) (fun _ _ => trivial) (fun r5 _ => ?_)
    refine po_b (d_f_Mo_push r4.2 r4.1 r5 r4.2 rfl h_r4) (fun r6 h_r6 => ?_)
    exact po_s h_r6
  refine X_p (R := fun _ => True) (fun _ _ => trivial) (fun r5 _ => ?_)
  refine X_b (x_f_Mo_push r4.1 r5 r4.2 h_r4) (fun r6 h_r6 => ?_) (fun r6 h_r6 => ?_)
  rotate_left
  ·
    exact po_s rfl
  exact po_s (X_s h_r6)
set_option maxHeartbeats 4000000 in
set_option maxRecDepth 100000 in
def e_f_Mo_pushNumber (x1 : Int32) (q : z_Sg) : Option (Sum z_Dd z_Sg) :=
  (if x1 = (106 : Int32) then (e_k_Mo_pushNumber_25 (1 : Int32) q) else ((f_Mo_stackSize q).bind (fun r2 => (if r2 = (2 : Int32) then (e_k_Mo_pushNumber_25 (2 : Int32) q) else (e_k_Mo_pushNumber_25 (4 : Int32) q)))))
theorem x_f_Mo_pushNumber (x1 : Int32) (q : z_Sg) (hq : z_gI q 4 = -1) : z_po (f_Mo_pushNumber x1 q) (z_X (fun o : z_Sg => o) (e_f_Mo_pushNumber x1 q)) := by
  unfold f_Mo_pushNumber e_f_Mo_pushNumber
  refine X_i (fun _ => ?_) (fun _ => ?_)
  ·
    exact x_k_Mo_pushNumber_25 (1 : Int32) q hq
  ·
    refine X_p (R := fun _ => True) (fun _ _ => trivial) (fun r2 _ => ?_)
    refine X_i (fun _ => ?_) (fun _ => ?_)
    ·
      exact x_k_Mo_pushNumber_25 (2 : Int32) q hq
    ·
      exact x_k_Mo_pushNumber_25 (4 : Int32) q hq
set_option maxHeartbeats 4000000 in
set_option maxRecDepth 100000 in
def e_k_Mo_product_46 (x2 : Int32) (t0 : Int64) (q : z_Sg) : Option (Sum z_Dd z_Sg) :=
  (z_eb (e_f_Mo_e x2 (0 : Int32) q) (fun r7 => ((f_Mo_extended r7.1 x2 r7.2).bind (fun r8 => ((f_Mo_multiplySigned r8 t0 r7.2).bind (fun r9 => ((f_Mo_lowest (z_gL r9 8) x2 r9).bind (fun r10 => ((f_Mo_extended r10 x2 r9).bind (fun r11 => (if (z_gL r9 8) = r11 then (if (0 : Int64) ≤ (z_gL r9 8) then ((k_Mo_product_110 x2 r10 (z_gL r9 9) (0 : Int64) r9).bind (fun o => some (.inr o))) else ((k_Mo_product_110 x2 r10 (z_gL r9 9) (-1 : Int64) r9).bind (fun o => some (.inr o)))) else ((k_Mo_product_114 x2 r10 r9).bind (fun o => some (.inr o))))))))))))))
theorem x_k_Mo_product_46 (x2 : Int32) (t0 : Int64) (q : z_Sg) (hq : z_gI q 4 = -1) : z_po (k_Mo_product_46 x2 t0 q) (z_X (fun o : z_Sg => o) (e_k_Mo_product_46 x2 t0 q)) := by
  unfold k_Mo_product_46 e_k_Mo_product_46
  refine X_b (x_f_Mo_e x2 (0 : Int32) q hq) (fun r7 h_r7 => ?_) (fun r7 h_r7 => ?_)
  rotate_left
  ·
    refine po_b (R := fun _ => True) (fun _ _ => trivial) (fun r8 _ => ?_)
    refine po_b (d_f_Mo_multiplySigned r7.2 r8 t0 r7.2 rfl) (fun r9 h_r9 => ?_)
    refine po_b (R := fun _ => True) (fun _ _ => trivial) (fun r10 _ => ?_)
    refine po_b (R := fun _ => True) (fun _ _ => trivial) (fun r11 _ => ?_)
    refine po_i (fun _ => ?_) (fun _ => ?_)
    ·
      refine po_i (fun _ => ?_) (fun _ => ?_)
      ·
        exact d_k_Mo_product_110 r7.2 x2 r10 (z_gL r9 9) (0 : Int64) r9 h_r9
      ·
        exact d_k_Mo_product_110 r7.2 x2 r10 (z_gL r9 9) (-1 : Int64) r9 h_r9
    ·
      exact d_k_Mo_product_114 r7.2 x2 r10 r9 h_r9
  refine X_p (R := fun _ => True) (fun _ _ => trivial) (fun r8 _ => ?_)
  refine X_p (d_f_Mo_multiplySigned r7.2 r8 t0 r7.2 rfl) (fun r9 k_r9 => ?_)
  have h_r9 : z_gI r9 4 = -1 := pn_a k_r9 h_r7
  refine X_p (R := fun _ => True) (fun _ _ => trivial) (fun r10 _ => ?_)
  refine X_p (R := fun _ => True) (fun _ _ => trivial) (fun r11 _ => ?_)
  refine X_i (fun _ => ?_) (fun _ => ?_)
  ·
    refine X_i (fun _ => ?_) (fun _ => ?_)
    ·
      exact X_t (d_k_Mo_product_110 r9 x2 r10 (z_gL r9 9) (0 : Int64) r9 rfl) h_r9
    ·
      exact X_t (d_k_Mo_product_110 r9 x2 r10 (z_gL r9 9) (-1 : Int64) r9 rfl) h_r9
  ·
    exact X_t (d_k_Mo_product_114 r9 x2 r10 r9 rfl) h_r9
set_option maxHeartbeats 4000000 in
set_option maxRecDepth 100000 in
def e_k_Mo_product_43 (x2 : Int32) (t1 : Int32) (q : z_Sg) : Option (Sum z_Dd z_Sg) :=
  (z_eb (e_f_Mo_number t1 q) (fun r6 => (e_k_Mo_product_46 x2 r6.1 r6.2)))
theorem x_k_Mo_product_43 (x2 : Int32) (t1 : Int32) (q : z_Sg) (hq : z_gI q 4 = -1) : z_po (k_Mo_product_43 x2 t1 q) (z_X (fun o : z_Sg => o) (e_k_Mo_product_43 x2 t1 q)) := by
  unfold k_Mo_product_43 e_k_Mo_product_43
  refine X_b (x_f_Mo_number t1 q hq) (fun r6 h_r6 => ?_) (fun r6 h_r6 => ?_)
  rotate_left
  ·
    exact d_k_Mo_product_46 r6.2 x2 r6.1 r6.2 rfl h_r6
  exact x_k_Mo_product_46 x2 r6.1 r6.2 h_r6
set_option maxHeartbeats 4000000 in
set_option maxRecDepth 100000 in
def e_f_Mo_product (x1 : Int32) (q : z_Sg) : Option (Sum z_Dd z_Sg) :=
  ((f_Mo_wide q).bind (fun r1 => (z_eb (e_f_Mo_takeOperand q) (fun r2 => (if x1 = (175 : Int32) then ((f_Mo_g r1 r2).bind (fun r17 => ((f_Mo_extended r17 r1 r2).bind (fun r18 => (e_k_Mo_product_46 r1 r18 r2))))) else (if x1 = (107 : Int32) then (e_k_Mo_product_43 r1 (1 : Int32) r2) else ((f_Mo_four r1 r2).bind (fun r5 => (e_k_Mo_product_43 r1 r5 r2)))))))))
theorem x_f_Mo_product (x1 : Int32) (q : z_Sg) (hq : z_gI q 4 = -1) : z_po (f_Mo_product x1 q) (z_X (fun o : z_Sg => o) (e_f_Mo_product x1 q)) := by
  unfold f_Mo_product e_f_Mo_product
  refine X_p (R := fun _ => True) (fun _ _ => trivial) (fun r1 _ => ?_)
  refine X_b (x_f_Mo_takeOperand q hq) (fun r2 h_r2 => ?_) (fun r2 h_r2 => ?_)
  rotate_left
  ·
    refine po_i (fun _ => ?_) (fun _ => ?_)
    ·
      refine po_b (R := fun _ => True) (fun _ _ => trivial) (fun r17 _ => ?_)
      refine po_b (R := fun _ => True) (fun _ _ => trivial) (fun r18 _ => ?_)
      exact d_k_Mo_product_46 r2 r1 r18 r2 rfl h_r2
    ·
      refine po_i (fun _ => ?_) (fun _ => ?_)
      ·
        exact d_k_Mo_product_43 r2 r1 (1 : Int32) r2 rfl h_r2
      ·
        refine po_b (R := fun _ => True) (fun _ _ => trivial) (fun r5 _ => ?_)
        exact d_k_Mo_product_43 r2 r1 r5 r2 rfl h_r2
  refine X_i (fun _ => ?_) (fun _ => ?_)
  ·
    refine X_p (R := fun _ => True) (fun _ _ => trivial) (fun r17 _ => ?_)
    refine X_p (R := fun _ => True) (fun _ _ => trivial) (fun r18 _ => ?_)
    exact x_k_Mo_product_46 r1 r18 r2 h_r2
  ·
    refine X_i (fun _ => ?_) (fun _ => ?_)
    ·
      exact x_k_Mo_product_43 r1 (1 : Int32) r2 h_r2
    ·
      refine X_p (R := fun _ => True) (fun _ _ => trivial) (fun r5 _ => ?_)
      exact x_k_Mo_product_43 r1 r5 r2 h_r2
set_option maxHeartbeats 4000000 in
set_option maxRecDepth 100000 in
def e_f_Mo_testNumber (x1 : Int32) (q : z_Sg) : Option (Sum z_Dd z_Sg) :=
  ((f_Mo_four x1 q).bind (fun r1 => (z_eb (e_f_Mo_number r1 q) (fun r2 => ((f_Mo_get8 (0 : Int32) x1 r2.2).bind (fun r3 => ((f_Mo_lowest r2.1 x1 r2.2).bind (fun r4 => ((f_Mo_logic (r3 &&& r4) x1 r2.2).bind (fun r5 => (some (.inr r5.2))))))))))))
theorem x_f_Mo_testNumber (x1 : Int32) (q : z_Sg) (hq : z_gI q 4 = -1) : z_po (f_Mo_testNumber x1 q) (z_X (fun o : z_Sg => o) (e_f_Mo_testNumber x1 q)) := by
  unfold f_Mo_testNumber e_f_Mo_testNumber
  refine X_p (R := fun _ => True) (fun _ _ => trivial) (fun r1 _ => ?_)
  refine X_b (x_f_Mo_number r1 q hq) (fun r2 h_r2 => ?_) (fun r2 h_r2 => ?_)
  rotate_left
  ·
    refine po_b (R := fun _ => True) (fun _ _ => trivial) (fun r3 _ => ?_)
    refine po_b (R := fun _ => True) (fun _ _ => trivial) (fun r4 _ => ?_)
    refine po_b (d_f_Mo_logic r2.2 (r3 &&& r4) x1 r2.2 rfl) (fun r5 h_r5 => ?_)
    exact po_s h_r5
  refine X_p (R := fun _ => True) (fun _ _ => trivial) (fun r3 _ => ?_)
  refine X_p (R := fun _ => True) (fun _ _ => trivial) (fun r4 _ => ?_)
  refine X_p (d_f_Mo_logic r2.2 (r3 &&& r4) x1 r2.2 rfl) (fun r5 k_r5 => ?_)
  have h_r5 : z_gI r5.2 4 = -1 := pn_a k_r5 h_r2
  exact po_s (X_s h_r5)
set_option maxHeartbeats 4000000 in
set_option maxRecDepth 100000 in
def e_f_Mo_load (x1 : Int64) (x3 : Int32) (x4 : Int32) (q : z_Sg) : Option (Sum z_Dd (Int64 × z_Sg)) :=
  (z_eb (e_f_Mo_lookUp x1 x3 (0 : Int32) x4 q) (fun r1 => ((f_Mo_held x3 r1).bind (fun r3 => ((k_Mo_load_26 r3 r1).bind (fun o => some (.inr o)))))))
theorem x_f_Mo_load (x1 : Int64) (x3 : Int32) (x4 : Int32) (q : z_Sg) (hq : z_gI q 4 = -1) : z_po (f_Mo_load x1 x3 x4 q) (z_X (fun o : (Int64 × z_Sg) => o.2) (e_f_Mo_load x1 x3 x4 q)) := by
  unfold f_Mo_load e_f_Mo_load
  refine X_b (x_f_Mo_lookUp x1 x3 (0 : Int32) x4 q hq) (fun r1 h_r1 => ?_) (fun r1 h_r1 => ?_)
  rotate_left
  ·
    refine po_f (pn_d rfl h_r1) ?_
    exact d_k_Mo_load_26 r1 (0 : Int64) r1 rfl
  refine po_t h_r1 ?_
  refine X_p (R := fun _ => True) (fun _ _ => trivial) (fun r3 _ => ?_)
  exact X_t (d_k_Mo_load_26 r1 r3 r1 rfl) h_r1
set_option maxHeartbeats 4000000 in
set_option maxRecDepth 100000 in
def e_f_Mo_pop (x1 : Int32) (q : z_Sg) : Option (Sum z_Dd (Int64 × z_Sg)) :=
  (if (z_bad (4 : Int32) 16) then none else (z_eb (e_f_Mo_load (z_gM q 0 (4 : Int32).toNatClampNeg) x1 (1 : Int32) q) (fun r2 => (if (z_bad (4 : Int32) 16) then none else (if (z_bad (4 : Int32) 16) then none else (z_nm (z_sM r2.2 0 (4 : Int32).toNatClampNeg ((z_gM r2.2 0 (4 : Int32).toNatClampNeg) + x1.toInt64)) (fun q6 => ((k_Mo_pop_32 r2.1 q6).bind (fun o => some (.inr o))))))))))
theorem x_f_Mo_pop (x1 : Int32) (q : z_Sg) (hq : z_gI q 4 = -1) : z_po (f_Mo_pop x1 q) (z_X (fun o : (Int64 × z_Sg) => o.2) (e_f_Mo_pop x1 q)) := by
  unfold f_Mo_pop e_f_Mo_pop
  refine X_g (fun _ => ?_)
  refine X_b (x_f_Mo_load (z_gM q 0 (4 : Int32).toNatClampNeg) x1 (1 : Int32) q hq) (fun r2 h_r2 => ?_) (fun r2 h_r2 => ?_)
  rotate_left
  ·
    refine po_f (pn_d rfl h_r2) ?_
    exact d_k_Mo_pop_32 r2.2 r2.1 r2.2 rfl
  refine po_t h_r2 ?_
  refine X_g (fun _ => ?_)
  refine X_g (fun _ => ?_)
  refine X_n (fun q6 e_q6 => ?_)
  have h_q6 : z_gI q6 4 = -1 := by rw [e_q6]; exact h_r2
  exact X_t (d_k_Mo_pop_32 q6 r2.1 q6 rfl) h_q6
set_option maxHeartbeats 4000000 in
set_option maxRecDepth 100000 in
def e_k_Mo_returns_33 (t0 : Int64) (q : z_Sg) : Option (Sum z_Dd z_Sg) :=
  (z_eb (e_f_Mo_pop (8 : Int32) q) (fun r3 => (if (z_bad (4 : Int32) 16) then none else (if (z_bad (4 : Int32) 16) then none else (z_nm (z_sM r3.2 0 (4 : Int32).toNatClampNeg ((z_gM r3.2 0 (4 : Int32).toNatClampNeg) + t0)) (fun q6 => (z_eb (e_f_Mo_jump r3.1 q6) (fun r8 => ((k_Mo_returns_66 r8).bind (fun o => some (.inr o)))))))))))
theorem x_k_Mo_returns_33 (t0 : Int64) (q : z_Sg) (hq : z_gI q 4 = -1) : z_po (k_Mo_returns_33 t0 q) (z_X (fun o : z_Sg => o) (e_k_Mo_returns_33 t0 q)) := by
  unfold k_Mo_returns_33 e_k_Mo_returns_33
  refine X_b (x_f_Mo_pop (8 : Int32) q hq) (fun r3 h_r3 => ?_) (fun r3 h_r3 => ?_)
  rotate_left
  ·
    refine po_g (fun _ => ?_)
    refine po_g (fun _ => ?_)
    refine po_n (fun q6 e_q6 => ?_)
    have h_q6 : z_pn q6 = z_pn r3.2 := by rw [e_q6]; exact rfl
    refine po_f (pn_d h_q6 h_r3) ?_
    exact d_k_Mo_returns_66 r3.2 q6 h_q6
  refine X_g (fun _ => ?_)
  refine X_g (fun _ => ?_)
  refine X_n (fun q6 e_q6 => ?_)
  have h_q6 : z_gI q6 4 = -1 := by rw [e_q6]; exact h_r3
  refine po_t h_q6 ?_
  refine X_b (x_f_Mo_jump r3.1 q6 h_q6) (fun r8 h_r8 => ?_) (fun r8 h_r8 => ?_)
  rotate_left
  ·
    exact d_k_Mo_returns_66 r8 r8 rfl
  exact X_t (d_k_Mo_returns_66 r8 r8 rfl) h_r8
set_option maxHeartbeats 4000000 in
set_option maxRecDepth 100000 in
def e_k_Mo_returns_13 (x1 : Int32) (q : z_Sg) : Option (Sum z_Dd z_Sg) :=
  (if x1 = (194 : Int32) then (z_eb (e_f_Mo_number (2 : Int32) q) (fun r9 => ((f_Mo_lowest r9.1 (2 : Int32) r9.2).bind (fun r10 => (e_k_Mo_returns_33 r10 r9.2))))) else (e_k_Mo_returns_33 (0 : Int64) q))
theorem x_k_Mo_returns_13 (x1 : Int32) (q : z_Sg) (hq : z_gI q 4 = -1) : z_po (k_Mo_returns_13 x1 q) (z_X (fun o : z_Sg => o) (e_k_Mo_returns_13 x1 q)) := by
  unfold k_Mo_returns_13 e_k_Mo_returns_13
  refine X_i (fun _ => ?_) (fun _ => ?_)
  ·
    refine X_b (x_f_Mo_number (2 : Int32) q hq) (fun r9 h_r9 => ?_) (fun r9 h_r9 => ?_)
    rotate_left
    ·
      refine po_b (R := fun _ => True) (fun _ _ => trivial) (fun r10 _ => ?_)
      exact d_k_Mo_returns_33 r9.2 r10 r9.2 rfl h_r9
    refine X_p (R := fun _ => True) (fun _ _ => trivial) (fun r10 _ => ?_)
    exact x_k_Mo_returns_33 r10 r9.2 h_r9
  ·
    exact x_k_Mo_returns_33 (0 : Int64) q hq
set_option maxHeartbeats 4000000 in
set_option maxRecDepth 100000 in
def e_f_Mo_returns (x1 : Int32) (q : z_Sg) : Option (Sum z_Dd z_Sg) :=
  (if (z_gI q 16) = 0 then (e_k_Mo_returns_13 x1 q) else (z_eb (e_f_Mo_refuse (6 : Int32) q) (fun r11 => (e_k_Mo_returns_13 x1 r11))))
theorem x_f_Mo_returns (x1 : Int32) (q : z_Sg) (hq : z_gI q 4 = -1) : z_po (f_Mo_returns x1 q) (z_X (fun o : z_Sg => o) (e_f_Mo_returns x1 q)) := by
  unfold f_Mo_returns e_f_Mo_returns
  refine X_i (fun _ => ?_) (fun _ => ?_)
  ·
    exact x_k_Mo_returns_13 x1 q hq
  ·
    refine X_b (x_f_Mo_refuse (6 : Int32) q hq) (fun r11 h_r11 => ?_) (fun r11 h_r11 => ?_)
    rotate_left
    ·
      exact d_k_Mo_returns_13 r11 x1 r11 rfl h_r11
    exact x_k_Mo_returns_13 x1 r11 h_r11
set_option maxHeartbeats 4000000 in
set_option maxRecDepth 100000 in
def e_k_Mo_moveNumber_17 (x1 : Int32) (q : z_Sg) : Option (Sum z_Dd z_Sg) :=
  (z_eb (e_f_Mo_takePlace q) (fun r3 => ((f_Mo_four x1 r3).bind (fun r4 => (z_eb (e_f_Mo_number r4 r3) (fun r5 => (z_eb (e_f_Mo_e x1 (1 : Int32) r5.2) (fun r6 => ((f_Mo_setE x1 r5.1 r6.2).bind (fun r7 => (some (.inr r7))))))))))))
theorem x_k_Mo_moveNumber_17 (x1 : Int32) (q : z_Sg) (hq : z_gI q 4 = -1) : z_po (k_Mo_moveNumber_17 x1 q) (z_X (fun o : z_Sg => o) (e_k_Mo_moveNumber_17 x1 q)) := by
  unfold k_Mo_moveNumber_17 e_k_Mo_moveNumber_17
  refine X_b (x_f_Mo_takePlace q hq) (fun r3 h_r3 => ?_) (fun r3 h_r3 => ?_)
  rotate_left
  ·
    refine po_b (R := fun _ => True) (fun _ _ => trivial) (fun r4 _ => ?_)
    refine po_b (d_f_Mo_number r3 r4 r3 rfl h_r3) (fun r5 h_r5 => ?_)
    refine po_b (d_f_Mo_e r3 x1 (1 : Int32) r5.2 h_r5 h_r3) (fun r6 h_r6 => ?_)
    refine po_b (d_f_Mo_setE r3 x1 r5.1 r6.2 h_r6) (fun r7 h_r7 => ?_)
    exact po_s h_r7
  refine X_p (R := fun _ => True) (fun _ _ => trivial) (fun r4 _ => ?_)
  refine X_b (x_f_Mo_number r4 r3 h_r3) (fun r5 h_r5 => ?_) (fun r5 h_r5 => ?_)
  rotate_left
  ·
    refine po_b (d_f_Mo_e r5.2 x1 (1 : Int32) r5.2 rfl h_r5) (fun r6 h_r6 => ?_)
    refine po_b (d_f_Mo_setE r5.2 x1 r5.1 r6.2 h_r6) (fun r7 h_r7 => ?_)
    exact po_s h_r7
  refine X_b (x_f_Mo_e x1 (1 : Int32) r5.2 h_r5) (fun r6 h_r6 => ?_) (fun r6 h_r6 => ?_)
  rotate_left
  ·
    refine po_b (d_f_Mo_setE r6.2 x1 r5.1 r6.2 rfl) (fun r7 h_r7 => ?_)
    exact po_s h_r7
  refine X_p (d_f_Mo_setE r6.2 x1 r5.1 r6.2 rfl) (fun r7 k_r7 => ?_)
  have h_r7 : z_gI r7 4 = -1 := pn_a k_r7 h_r6
  exact po_s (X_s h_r7)
