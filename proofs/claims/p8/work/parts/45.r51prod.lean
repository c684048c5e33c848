theorem prod_much {v t : Int64} {n : Nat} (hn : n = 2 ∨ n = 4 ∨ n = 8) (ht : sx t n = t) : (if (sx v n * t) = sx (sx v n * t) n then (if (0 : Int64) ≤ (sx v n * t) then decide (¬ sH (sx v n) t = 0) else decide (¬ sH (sx v n) t = -1)) else true) = spl true ((sx v n * t) &&& mk n) (if n = 8 then sH (sx v n) t else (z_lushr (sx v n * t) (nI (8 * n))) &&& mk n) n := by
  have h1 : 1 ≤ n := by omega
  have h8 : n ≤ 8 := by omega
  unfold spl
  rw [sF_mk _ h1 h8, Bool.true_and]
  by_cases c8 : n = 8
  · subst c8
    rw [sx_8 (sx v 8 * t), if_pos rfl, if_pos rfl]
    have hp := sx_neg (sx v 8 * t) (n := 8) (by decide) (by decide)
    rw [sx_8] at hp
    cases hs : sF (sx v 8 * t) 8 with
    | false => rw [if_pos (hp.mpr hs)]; rfl
    | true => rw [if_neg (fun x => by rw [hp.mp x] at hs; cases hs)]; rfl
  · have hn' : n = 2 ∨ n = 4 := by omega
    have ha : sx (sx v n) n = sx v n := tb_ext (fun i hi => by
      rw [tb_sx _ h1 h8 i hi]
      by_cases c : i < 8 * n
      · rw [if_pos c]
      · rw [if_neg c, tb_sx _ h1 h8 _ (by omega), if_pos (by omega), tb_sx _ h1 h8 i hi, if_neg c])
    obtain ⟨f1, f2⟩ := fit_hi hn' ha ht
    rw [if_neg c8]
    generalize sx v n * t = P at *
    generalize sH (sx v n) t = H at *
    have hsm : (P = sx P n) ↔ ((z_lushr P (nI (8 * n))) &&& mk n) = (if sF P n = true then mk n else 0) := by
      have tr : ∀ i, i < 64 → tb (if sF P n = true then mk n else 0) i = (sF P n && decide (i < 8 * n)) := by
        intro i hi
        cases sF P n with
        | false => show tb 0 i = _; rw [tb_0]; rfl
        | true => show tb (mk n) i = _; rw [tb_mk h8 i hi]; rfl
      constructor
      · intro h
        refine tb_ext (fun i hi => ?_)
        rw [tr i hi, tb_and, tb_mk h8 i hi, tb_ushr _ _ (by omega)]
        by_cases c : i < 8 * n
        · rw [decide_eq_true c]
          have := congrArg (fun z => tb z (i + 8 * n)) h
          rw [tb_sx P h1 h8 (i + 8 * n) (by omega), if_neg (by omega)] at this
          rw [this]; rfl
        · rw [decide_eq_false c, Bool.and_false, Bool.and_false]
      · intro h
        have low : ∀ i, i < 8 * n → tb P (i + 8 * n) = sF P n := by
          intro i hi
          have := congrArg (fun z => tb z i) h
          rw [tr i (by omega), tb_and, tb_mk h8 i (by omega), tb_ushr _ _ (by omega), decide_eq_true hi, Bool.and_true, Bool.and_true] at this
          exact this
        refine tb_ext (fun i hi => ?_)
        rw [tb_sx P h1 h8 i hi]
        by_cases c : i < 8 * n
        · rw [if_pos c]
        · rw [if_neg c]
          show _ = sF P n
          by_cases c2 : i < 16 * n
          · have := low (i - 8 * n) (by omega)
            rw [show i - 8 * n + 8 * n = i by omega] at this
            exact this
          · have := low (8 * n - 1) (by omega)
            rw [f2 i (by omega) hi, ← f2 (8 * n - 1 + 8 * n) (by omega) (by omega)]
            exact this
    by_cases c : P = sx P n
    · have e2 : decide (¬ (z_lushr P (nI (8 * n))) &&& mk n = (if sF P n = true then mk n else 0)) = false := decide_eq_false (fun x => x (hsm.mp c))
      rw [if_pos c, e2, f1]
      by_cases cn : P < 0
      · rw [if_neg (Int64.not_le.mpr cn), if_pos cn]; rfl
      · rw [if_pos (Int64.not_lt.mp cn), if_neg cn]; rfl
    · have e2 : decide (¬ (z_lushr P (nI (8 * n))) &&& mk n = (if sF P n = true then mk n else 0)) = true := decide_eq_true (fun x => c (hsm.mpr x))
      rw [if_neg c, e2]
theorem sH_comm (a b : Int64) : sH a b = sH b a := by
  unfold sH uH
  rw [Nat.mul_comm, Int64.add_comm (if a < 0 then b else 0)]
def prodT (n : Nat) (t : Int64) : Int64 × z_Sg → Option (Sum z_Dd z_Sg) := fun r7 => ((f_Mo_extended r7.1 (nI n) r7.2).bind (fun r8 => ((f_Mo_multiplySigned r8 t r7.2).bind (fun r9 => ((f_Mo_lowest (z_gL r9 8) (nI n) r9).bind (fun r10 => ((f_Mo_extended r10 (nI n) r9).bind (fun r11 => (if (z_gL r9 8) = r11 then (if (0 : Int64) ≤ (z_gL r9 8) then ((k_Mo_product_110 (nI n) r10 (z_gL r9 9) (0 : Int64) r9).bind (fun o => some (.inr o))) else ((k_Mo_product_110 (nI n) r10 (z_gL r9 9) (-1 : Int64) r9).bind (fun o => some (.inr o)))) else ((k_Mo_product_114 (nI n) r10 r9).bind (fun o => some (.inr o))))))))))))
theorem prod_r {k0 k m : z_Sg} (hE : EQ k m) (hM : MR k m) {n : Nat} (hn : n = 2 ∨ n = 4 ∨ n = 8) {v t a b : Int64} (ht : sx t n = t) (hP : prP true a b n = sx v n * t) (hH : n = 8 → sH a b = sH (sx v n) t) {C : Option z_Sg → Option (Int32 × z_Sg)} (hC : ∀ q, C (some q) = some (-1, q)) : z_r k0 ((C ((f_Wi_multiply a b (nI n) 1 k).bind (fun r3 => f_Op_putG (z_gL r3 11) (nI n) r3))).bind S3) (prodT n t (v, m)) FQQ := by
  have h1 : 1 ≤ n := by omega
  have h8 : n ≤ 8 := by omega
  obtain ⟨k1, p1, p2, p3, p4, p5⟩ := K_mul hE.2.1 true a b (n := n) (by omega)
  obtain ⟨m1, y1, y2, y3, y4⟩ := M_mulS (sx v n) t m
  have p1' : f_Wi_multiply a b (nI n) 1 k = some k1 := p1
  have hE1 : EQn k1 m1 := EQn_k hE.1 p2 y4 (by decide) (by decide) (by decide) (by decide) (by decide) (by decide) (by decide)
  have hM1 : MR k1 m1 := MR_fr hM p2 y4 (by decide) (by decide)
  obtain ⟨k2, m2, w1, w2, w3, w4, w5⟩ := putG_r hE1 hM1 h1 h8 (em_r n ((sx v n * t) &&& mk n))
  have eh : hiN true a b n = (if n = 8 then sH (sx v n) t else (z_lushr (sx v n * t) (nI (8 * n))) &&& mk n) := by
    unfold hiN
    rw [hP]
    by_cases c : n = 8
    · rw [if_pos c, if_pos c, ← hH c]; rfl
    · rw [if_neg c, if_neg c]
  have much := prod_much (v := v) hn ht
  rw [← eh] at much
  have eM : prodT n t (v, m) = some (.inr (mcF (spl true ((sx v n * t) &&& mk n) (hiN true a b n) n) m2)) := by
    unfold prodT
    show (f_Mo_extended v (nI n) m).bind _ = _
    rw [M_extended _ h1 h8, po_bs2, y1, po_bs2, M_lowest _ h8, po_bs2, M_extended _ h1 h8, po_bs2, y2, y3]
    have esx : sx ((sx v n * t) &&& mk n) n = sx (sx v n * t) n := tb_ext (fun i hi => by
      rw [tb_sx _ h1 h8 i hi, tb_sx _ h1 h8 i hi]
      have q : ∀ j, j < 8 * n → tb ((sx v n * t) &&& mk n) j = tb (sx v n * t) j := fun j hj => em_mk h8 _ j hj
      by_cases c : i < 8 * n
      · rw [if_pos c, if_pos c, q i c]
      · rw [if_neg c, if_neg c, q _ (by omega)])
    rw [esx, ← much]
    have e119 : ∀ s : Bool, (k_Mo_product_119 (nI n) ((sx v n * t) &&& mk n) (b2i s) m1).bind (fun o => some (Sum.inr (α := z_Dd) o)) = some (.inr (mcF s m2)) := by
      intro s
      unfold k_Mo_product_119
      rw [w2, po_bs2, M_much, po_bs2]; rfl
    have e110 : ∀ T : Int64, (k_Mo_product_110 (nI n) ((sx v n * t) &&& mk n) (sH (sx v n) t) T m1).bind (fun o => some (Sum.inr (α := z_Dd) o)) = some (.inr (mcF (decide (¬ sH (sx v n) t = T)) m2)) := by
      intro T
      unfold k_Mo_product_110 k_Mo_product_114
      by_cases c : sH (sx v n) t = T
      · rw [if_pos c, decide_eq_false (fun x => x c)]; exact e119 false
      · rw [if_neg c, decide_eq_true c]; exact e119 true
    by_cases c : (sx v n * t) = sx (sx v n * t) n
    · rw [if_pos c, if_pos c]
      by_cases cn : (0 : Int64) ≤ (sx v n * t)
      · rw [if_pos cn, if_pos cn, e110]
      · rw [if_neg cn, if_neg cn, e110]
    · rw [if_neg c, if_neg c]
      exact e119 true
  rw [eM, p1', po_bs2, p3, hP, w1, hC]
  refine fin (mul_fin (k0 := k0) hE w3 (fr_t (fr_w p2 (by decide) (by decide) (by decide) (by decide)) (fr_w w4 (by decide) (by decide) (by decide) (by decide))) (fr_t (fr_w y4 (by decide) (by decide) (by decide) (by decide)) (fr_w w5 (by decide) (by decide) (by decide) (by decide))) ?_)
  rw [fr_I w4 0 (by decide), p5, hP]
theorem sx_sx {x : Int64} {f n : Nat} (f1 : 1 ≤ f) (h : f ≤ n) (n8 : n ≤ 8) : sx (sx x f) n = sx x f := tb_ext (fun i hi => by
  rw [tb_sx _ (by omega) n8 i hi]
  by_cases c : i < 8 * n
  · rw [if_pos c]
  · rw [if_neg c, tb_sx _ f1 (by omega) _ (by omega), tb_sx _ f1 (by omega) i hi, if_neg (show ¬ i < 8 * f by omega)]
    by_cases d : 8 * n - 1 < 8 * f
    · rw [if_pos d, show 8 * n - 1 = 8 * f - 1 by omega]
    · rw [if_neg d])
