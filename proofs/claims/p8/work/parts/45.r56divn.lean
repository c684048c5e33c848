theorem M_div145 {m m1 : z_Sg} (hf : fr [8, 9] [] [] [] m m1) {n u l x : Nat} (hn : n = 1 ∨ n = 2 ∨ n = 4 ∨ n = 8) (hu : u < 2 ^ (8 * n)) (hl : l < 2 ^ (8 * n)) (hx : x < 2 ^ (8 * n)) (hx0 : 0 < x) (sg : Bool) {V : Nat} (hV : V = if dvG sg u n then 2 ^ 128 - dvD sg u l n else dvD sg u l n) (h8 : z_gL m1 8 = lN (V % 2 ^ 64)) (h9 : z_gL m1 9 = lN (V / 2 ^ 64)) (hs : sg = true → (dvG sg u n = true ↔ 2 ^ 63 ≤ V / 2 ^ 64)) : (¬ dvK sg u l x n → e_k_Mo_divide_145 (lN x) (nI n) (b2i sg) m1 = some (.inl (0, z_gL m 5, z_gI m 0))) ∧ (dvK sg u l x n → ∃ m3, e_k_Mo_divide_145 (lN x) (nI n) (b2i sg) m1 = (k_Mo_divide_404 (nI n) (if dvO sg u x n then -lN (dvD sg u l n / dvM sg x n) else lN (dvD sg u l n / dvM sg x n)) (if dvG sg u n then -lN (dvD sg u l n % dvM sg x n) else lN (dvD sg u l n % dvM sg x n)) m3).bind (fun o => some (.inr o)) ∧ fr [8, 9] [] [] [] m m3) := by
  have h1 : 1 ≤ n := by omega
  have hh8 : n ≤ 8 := by omega
  have hN : 2 ^ (8 * n) ≤ 2 ^ 64 := Nat.pow_le_pow_right (by decide) (by omega)
  have e2 : 2 ^ (8 * n) = 2 * 2 ^ (8 * n - 1) := by rw [← Nat.pow_succ']; congr 1; omega
  have hpos : 0 < 2 ^ (8 * n - 1) := Nat.two_pow_pos _
  obtain ⟨b1, _, b3, b4⟩ := dvD_lt (sg := sg) hn hu hl
  have hV128 : V < 2 ^ 128 := by
    rw [hV]
    cases hg : dvG sg u n with
    | false => show dvD sg u l n < 2 ^ 128; omega
    | true => have := b3 hg; show 2 ^ 128 - dvD sg u l n < 2 ^ 128; omega
  have hM : 0 < dvM sg x n ∧ dvM sg x n < 2 ^ 64 := by
    unfold dvM
    cases hg : dvG sg x n with
    | false => show 0 < x ∧ x < 2 ^ 64; omega
    | true =>
      have := (dvG_t hg).2
      show 0 < 2 ^ (8 * n) - x ∧ 2 ^ (8 * n) - x < 2 ^ 64
      omega
  have e220 : ∃ m2, fr [8, 9] [] [] [] m m2 ∧ z_gL m2 8 = lN (dvD sg u l n % 2 ^ 64) ∧ z_gL m2 9 = lN (dvD sg u l n / 2 ^ 64) ∧ ∀ by_ op, e_k_Mo_divide_209 (nI n) (b2i sg) (b2i (dvG sg u n)) by_ op m1 = e_k_Mo_divide_220 (nI n) (b2i sg) (b2i (dvG sg u n)) by_ op m2 := by
    unfold e_k_Mo_divide_209
    cases hg : dvG sg u n with
    | false =>
      rw [hg] at hV
      have hV' : V = dvD sg u l n := hV
      rw [hV'] at h8 h9
      exact ⟨m1, hf, h8, h9, fun _ _ => rfl⟩
    | true =>
      rw [hg] at hV
      have hV' : V = 2 ^ 128 - dvD sg u l n := hV
      have hd0 := b3 hg
      obtain ⟨q', t1, t2, t3, t4⟩ := turn_ok m1 h8 h9 (Nat.mod_lt _ (by decide)) (by omega)
      refine ⟨q', fr_t hf t4, ?_, ?_, fun by_ op => ?_⟩
      · rw [t2]; exact wN_eq (by omega)
      · rw [t3]; refine wN_eq ?_
        generalize dvD sg u l n = D at *
        split <;> omega
      · rw [if_neg (show ¬ b2i true = 0 by decide), t1, po_bs2]
  obtain ⟨m2, f2, d8, d9, e209⟩ := e220
  have key := M_div241 f2 hn hM.1 hM.2 (by omega) d8 d9 sg (dvG sg u n) (dvO sg u x n)
  have fin : e_k_Mo_divide_145 (lN x) (nI n) (b2i sg) m1 = e_k_Mo_divide_241 (nI n) (b2i sg) (b2i (dvG sg u n)) (b2i (dvO sg u x n)) (lN (dvM sg x n)) m2 := by
    have e201 : ∀ by_, e_k_Mo_divide_201 (nI n) (b2i sg) (b2i (dvG sg u n)) by_ (b2i (dvG sg u n)) (b2i (dvG sg x n)) m1 = e_k_Mo_divide_220 (nI n) (b2i sg) (b2i (dvG sg u n)) by_ (b2i (dvO sg u x n)) m2 := by
      intro by_
      rw [← e209]
      unfold e_k_Mo_divide_201 dvO
      have c00 : b2i (false ^^ false) = 0 := rfl
      have c01 : b2i (false ^^ true) = 1 := rfl
      have c10 : b2i (true ^^ false) = 1 := rfl
      have c11 : b2i (true ^^ true) = 0 := rfl
      cases dvG sg u n <;> cases dvG sg x n
      · rw [if_pos rfl, c00]
      · rw [if_neg (by decide), c01]
      · rw [if_neg (by decide), c10]
      · rw [if_pos rfl, c11]
    have e164 : e_k_Mo_divide_164 (lN x) (nI n) (b2i sg) (b2i (dvG sg u n)) m1 = e_k_Mo_divide_241 (nI n) (b2i sg) (b2i (dvG sg u n)) (b2i (dvO sg u x n)) (lN (dvM sg x n)) m2 := by
      unfold e_k_Mo_divide_164 e_k_Mo_divide_180 e_k_Mo_divide_200
      cases hsg : sg with
      | false =>
        rw [if_pos (show b2i false = 0 from rfl), if_pos (show b2i false = 0 from rfl)]
        have hx' : dvG sg x n = false := by rw [hsg]; rfl
        have e := e201 (lN x)
        rw [hx', hsg] at e
        refine e.trans ?_
        unfold e_k_Mo_divide_220 e_k_Mo_divide_239 dvM
        rw [if_pos (show b2i false = 0 from rfl)]
        rfl
      | true =>
        rw [if_neg (show ¬ b2i true = 0 by decide), M_extended _ h1 hh8, po_bs2, if_neg (show ¬ b2i true = 0 by decide)]
        by_cases cx : 2 ^ (8 * n - 1) ≤ x
        · have hx' : dvG sg x n = true := by unfold dvG; rw [hsg, decide_eq_true cx]; rfl
          have hneg : ¬ (0 : Int64) ≤ sx (lN x) n := fun z => (sx_nonneg_N h1 hh8 hx).mp z cx
          rw [if_neg hneg]
          have e := e201 (sx (lN x) n)
          rw [hx', hsg] at e
          refine e.trans ?_
          unfold e_k_Mo_divide_220
          rw [if_neg (show ¬ b2i true = 0 by decide), if_neg hneg, sx_N h1 hh8 hx, if_pos cx, wN_neg (by omega)]
          have hx2 : dvG true x n = true := hsg ▸ hx'
          have e7 : dvM true x n = 2 ^ (8 * n) - x := by unfold dvM; rw [hx2, if_pos rfl]
          have e8 : 2 ^ 64 - (x + (2 ^ 64 - 2 ^ (8 * n))) = dvM true x n := by rw [e7]; omega
          rw [e8]
        · have hx' : dvG sg x n = false := by unfold dvG; rw [hsg, decide_eq_false cx]; rfl
          have hpos' : (0 : Int64) ≤ sx (lN x) n := (sx_nonneg_N h1 hh8 hx).mpr cx
          rw [if_pos hpos']
          have e := e201 (sx (lN x) n)
          rw [hx', hsg] at e
          refine e.trans ?_
          unfold e_k_Mo_divide_220 e_k_Mo_divide_239
          rw [if_neg (show ¬ b2i true = 0 by decide), if_pos hpos', sx_N h1 hh8 hx, if_neg cx]
          have hx2 : dvG true x n = false := hsg ▸ hx'
          have e7 : dvM true x n = x := by unfold dvM; rw [hx2]; rfl
          rw [e7]
    rw [← e164]
    unfold e_k_Mo_divide_145 e_k_Mo_divide_163
    cases hsg : sg with
    | false =>
      rw [if_pos (show b2i false = 0 from rfl)]
      rfl
    | true =>
      rw [if_neg (show ¬ b2i true = 0 by decide)]
      have nn := uN_nn (z_gL m1 9)
      rw [h9, uN_N (by omega)] at nn
      rw [h9]
      have hs' := hs hsg
      rw [hsg] at hs'
      cases hg : dvG true u n with
      | false =>
        have : ¬ 2 ^ 63 ≤ V / 2 ^ 64 := fun z => by have := hs'.mpr z; rw [hg] at this; cases this
        rw [if_pos (nn.mpr (by omega))]; rfl
      | true =>
        have := hs'.mp hg
        rw [if_neg (fun z => by have := nn.mp z; omega)]; rfl
  rw [fin]
  unfold dvK
  constructor
  · intro h
    exact key.1 (fun z => h ⟨hM.1, z.1, z.2⟩)
  · rintro ⟨_, z1, z2⟩
    exact key.2 ⟨z1, z2⟩
