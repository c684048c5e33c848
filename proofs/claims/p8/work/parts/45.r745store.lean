theorem tI_iushr (x : Int32) {s : Nat} (hs : s < 32) (i : Nat) : tI (z_iushr x (nI s)) i = tI x (i + s) := by
  unfold tI z_iushr
  have e : (nI s).toUInt32 &&& Int32.toUInt32 31 = UInt32.ofNat s := by
    have : ∀ s, s < 32 → (nI s).toUInt32 &&& Int32.toUInt32 31 = UInt32.ofNat s := by decide +kernel
    exact this s hs
  rw [e]
  show (x.toBitVec >>> ((UInt32.ofNat s).toBitVec % 32)).getLsbD i = _
  have e2 : ((UInt32.ofNat s).toBitVec % 32).toNat = s := by
    have : ∀ k, k < 32 → ((UInt32.ofNat k).toBitVec % 32).toNat = k := by decide +kernel
    exact this s hs
  rw [BitVec.ushiftRight_eq', BitVec.getLsbD_ushiftRight, e2, Nat.add_comm]
theorem tI_ishr (x : Int32) {s : Nat} (hs : s < 32) (i : Nat) (hi : i + s < 32) : tI (x >>> ((nI s) &&& 31)) i = tI x (i + s) := by
  unfold tI
  have e : (nI s) &&& 31 = nI s := by
    have : ∀ s, s < 32 → (nI s) &&& 31 = nI s := by decide +kernel
    exact this s hs
  rw [e]
  show (x.toBitVec.sshiftRight ((nI s).toBitVec.smod 32).toNat).getLsbD i = _
  have e2 : ((nI s).toBitVec.smod 32).toNat = s := by
    have : ∀ k, k < 32 → ((nI k).toBitVec.smod 32).toNat = k := by decide +kernel
    exact this s hs
  rw [e2, BitVec.getLsbD_sshiftRight, decide_eq_false (show ¬ 32 ≤ i by omega), Nat.add_comm s i, if_pos hi]
  rfl
def stb (b c : Int32) (t : Nat) : Int32 := (z_iushr (if t < 4 then b else c) (nI (8 * (t % 4)))) &&& 255
theorem shr_b (x : Int32) {r : Nat} (hr : r < 4) : (x >>> ((nI (8 * r)) &&& 31)) &&& 255 = (z_iushr x (nI (8 * r))) &&& 255 := by
  refine tI_ext (fun i hi => ?_)
  rw [tI_and, tI_and, tI_255]
  by_cases c : i < 8
  · rw [tI_ishr x (by omega) i (by omega), tI_iushr x (by omega)]
  · rw [decide_eq_false c, Bool.and_false, Bool.and_false]
def stQ (A : Nat) (P : Nat → Prop) [DecidablePred P] (b c : Int32) (B B' : Int64 → Int32) : Prop := ∀ u, u < 32768 → B' (lN u) = if A ≤ u ∧ P (u - A) then stb b c (u - A) else B (lN u)
theorem lN_eqq {a b : Nat} (ha : a < 2 ^ 64) (hb : b < 2 ^ 64) : (lN a = lN b) ↔ a = b := by
  constructor
  · intro h
    have := congrArg uN h
    rwa [uN_N ha, uN_N hb] at this
  · intro h; rw [h]
theorem nI_64 {n : Nat} (h : n < 65536) : (nI n).toInt64 = lN n := by
  refine tb_ext (fun i hi => ?_)
  rw [tb_i2l, tb_N, decide_eq_true hi, tI_N, tI_N]
  by_cases c : i < 32
  · rw [if_pos c, decide_eq_true c]; simp
  · rw [if_neg c]
    have h31 : n.testBit 31 = false := Nat.testBit_lt_two_pow (by omega)
    have hin : n.testBit i = false := Nat.testBit_lt_two_pow (Nat.lt_of_lt_of_le h (Nat.le_trans (by decide : 65536 ≤ 2 ^ 32) (Nat.pow_le_pow_right (by decide) (by omega))))
    rw [h31, hin]; simp
theorem in_32 {n : Nat} (h : n < 32768) : ¬ (lN n < 0 ∨ ¬ lN n < 32768) := by
  rintro (x | x)
  · rw [show (0 : Int64) = lN 0 from rfl, pk_lLT (by omega) (by decide)] at x; omega
  · rw [show (32768 : Int64) = lN 32768 from rfl, pk_lLT (by omega) (by decide)] at x; omega
theorem st_K1 {A t : Nat} (hA : A ≤ 32760) (ht : t < 8) (b c : Int32) (q : z_Sg) {v : Int64} (hv : v.toInt32 &&& 255 = stb b c t) {P P' : Nat → Prop} [DecidablePred P] [DecidablePred P'] (hP : ∀ x, P' x ↔ (P x ∨ x = t)) {B : Int64 → Int32} (hq : stQ A P b c B (kB (z_gM q 1))) : ∃ w, f_Pa_putByte (lN (A + t)) v q = some w ∧ fr [] [] [1] [] q w ∧ stQ A P' b c B (kB (z_gM w 1)) := by
  obtain ⟨w, e1, ⟨i, y, e2⟩, e3⟩ := K_putByte (lN (A + t)) v q
  refine ⟨w, e1, ?_, fun u hu => ?_⟩
  · rcases e2 with e2 | e2
    · rw [e2]; exact fr_0
    · rw [e2]; exact fr_sM fr_0 (by decide)
  · rw [e3, hq u hu]
    by_cases cu : u = A + t
    · rw [if_pos ⟨by rw [cu], in_32 (by omega)⟩, hv, if_pos ⟨by omega, (hP _).mpr (Or.inr (by omega))⟩, show u - A = t by omega]
    · rw [if_neg (fun z => cu ((lN_eqq (by omega) (by omega)).mp z.1))]
      by_cases cp : A ≤ u ∧ P (u - A)
      · rw [if_pos cp, if_pos ⟨cp.1, (hP _).mpr (Or.inl cp.2)⟩]
      · rw [if_neg cp, if_neg (fun z => ?_)]
        rcases (hP _).mp z.2 with x | x
        · exact cp ⟨z.1, x⟩
        · omega
theorem st_M1 {A t : Nat} (hA : A ≤ 32760) (ht : t < 8) (b c : Int32) (q : z_Sg) {v : Int32} (hv : v &&& 255 = stb b c t) {B : Int64 → Int32} (hq : stQ A (fun x => x < t) b c B (mB (z_gN q 0))) : stQ A (fun x => x < t + 1) b c B (mB (z_gN (z_sN q 0 (A + t) (vp_nar .byte (v.toInt8.toInt32))) 0)) := by
  intro u hu
  have h0 := hq u hu
  rw [mB_lt hu] at h0 ⊢
  show (if u = A + t then _ else z_gN q 0 u) &&& 255 = _
  by_cases cu : u = A + t
  · rw [if_pos cu, if_pos ⟨by omega, by omega⟩, nar_b, hv, show u - A = t by omega]
  · rw [if_neg cu, h0]
    by_cases cp : A ≤ u ∧ u - A < t
    · rw [if_pos cp, if_pos ⟨cp.1, by omega⟩]
    · rw [if_neg cp, if_neg (fun z => cp ⟨z.1, by omega⟩)]
theorem store_r {k m : z_Sg} (h : Sim k m) (a b c : Int32) {oK : Int32 × z_Sg} (hK : f_Co_store a b c k = some oK) : z_po (f_Mo_store a b c m) (fun oM => oK.1 = oM.1 ∧ Sim oK.2 oM.2) := by
  unfold f_Co_store k_Co_store_11 at hK
  unfold f_Mo_store k_Mo_store_17
  by_cases c0 : a < 0
  · rw [if_pos c0] at hK
    cases hK
    exact po_t c0 (po_s ⟨rfl, h⟩)
  · rw [if_neg c0] at hK
    refine po_f c0 ?_
    have ge : 0 ≤ a.toInt := by
      have := Int32.not_lt.mp c0
      rw [Int32.le_iff_toInt_le] at this
      exact this
    have cmp : (a.toInt64 + (8 : Int64) ≤ (32768 : Int64)) ↔ a ≤ (32760 : Int32) := by
      rw [Int64.le_iff_toInt_le, Int32.le_iff_toInt_le, Int64.toInt_add, Int32.toInt_toInt64]
      have := Int32.toInt_lt a
      rw [bm64 (by show _ ≤ a.toInt + 8; omega) (by show a.toInt + 8 < _; omega)]
      show a.toInt + 8 ≤ 32768 ↔ a.toInt ≤ 32760
      omega
    by_cases c1 : a ≤ 32760
    · rw [if_pos c1] at hK
      refine po_t (cmp.mpr c1) ?_
      obtain ⟨A, hA, eA⟩ : ∃ A, A ≤ 32760 ∧ a = nI A := by
        rw [Int32.le_iff_toInt_le] at c1
        have c1' : a.toInt ≤ 32760 := c1
        refine ⟨a.toInt.toNat, by omega, Int32.toInt_inj.mp ?_⟩
        have : (nI a.toInt.toNat).toInt = a.toInt.toNat := Int32.toInt_ofNat_of_lt (by omega)
        rw [this]; omega
      subst eA
      have KK : ∀ f i q, i ≤ 4 → fr [] [] [1] [] k q → stQ A (fun x => x < i ∨ (4 ≤ x ∧ x < 4 + i)) b c (kB (z_gM k 1)) (kB (z_gM q 1)) → ∀ o, z_lo (fun ih16 (a : Int32 × Int32 × Int32 × Int32 × z_Sg) => kb_Co_store_16 ih16 a.1 a.2.1 a.2.2.1 a.2.2.2.1 a.2.2.2.2) f (nI A, b, c, nI i, q) = some o → o.1 = 1 ∧ fr [] [] [1] [] k o.2 ∧ stQ A (fun x => x < 8) b c (kB (z_gM k 1)) (kB (z_gM o.2 1)) := by
        intro f
        induction f with
        | zero => intro i q _ _ _ o ho; cases ho
        | succ f ih =>
          intro i q hi fq hq o ho
          have ho' : kb_Co_store_16 (z_lo (fun ih16 (a : Int32 × Int32 × Int32 × Int32 × z_Sg) => kb_Co_store_16 ih16 a.1 a.2.1 a.2.2.1 a.2.2.2.1 a.2.2.2.2) f) (nI A) b c (nI i) q = some o := ho
          unfold kb_Co_store_16 at ho'
          have le : ((4 : Int32) ≤ nI i) ↔ 4 ≤ i := (nI_cm (show 4 ≤ 65 by omega) (show i ≤ 65 by omega)).1
          by_cases c4 : 4 ≤ i
          · rw [if_pos (le.mpr c4)] at ho'
            cases ho'
            refine ⟨rfl, fq, fun u hu => ?_⟩
            rw [hq u hu]
            by_cases x : A ≤ u ∧ u - A < 8
            · rw [if_pos x, if_pos ⟨x.1, by omega⟩]
            · rw [if_neg x, if_neg (fun z => x ⟨z.1, by omega⟩)]
          · rw [if_neg (fun z => c4 (le.mp z))] at ho'
            have e8 : (8 : Int32) * nI i = nI (8 * i) := s8_i (by omega)
            have ei : ∀ x : Int32, ((z_iushr x (nI (8 * i))).toInt64).toInt32 = z_iushr x (nI (8 * i)) := fun x => Int32.toInt32_toInt64 _
            have ea : (nI A + nI i).toInt64 = lN (A + i) := by rw [nI_add]; exact nI_64 (by omega)
            have eb : ((nI A + (4 : Int32)) + nI i).toInt64 = lN (A + (4 + i)) := by
              rw [show (4 : Int32) = nI 4 from rfl, nI_add, nI_add, Nat.add_assoc]; exact nI_64 (by omega)
            rw [e8, ea, eb] at ho'
            obtain ⟨w1, p1, p2, p3⟩ := st_K1 (t := i) hA (by omega) b c q (v := (z_iushr b (nI (8 * i))).toInt64) (by rw [ei]; unfold stb; rw [if_pos (by omega), Nat.mod_eq_of_lt (by omega)]) (P := fun x => x < i ∨ (4 ≤ x ∧ x < 4 + i)) (P' := fun x => x < i + 1 ∨ (4 ≤ x ∧ x < 4 + i)) (fun x => by omega) hq
            rw [p1, po_bs2] at ho'
            obtain ⟨w2, r1, r2, r3⟩ := st_K1 (t := 4 + i) hA (by omega) b c w1 (v := (z_iushr c (nI (8 * i))).toInt64) (by rw [ei]; unfold stb; rw [if_neg (by omega), show (4 + i) % 4 = i by omega]) (P := fun x => x < i + 1 ∨ (4 ≤ x ∧ x < 4 + i)) (P' := fun x => x < i + 1 ∨ (4 ≤ x ∧ x < 4 + (i + 1))) (fun x => by omega) p3
            rw [r1, po_bs2, po_nm2, nI_S] at ho'
            exact ih (i + 1) w2 (by omega) (fr_t (fr_t fq p2) r2) r3 o ho'
      obtain ⟨k1, k2, k3⟩ := KK 2000 0 k (by omega) fr_0 (fun u hu => by rw [if_neg (fun z => by omega)]) oK hK
      unfold k_Mo_store_22
      refine po_w (P := fun oM => oM.1 = 1 ∧ fr [] [] [] [0] m oM.2 ∧ stQ A (fun x => x < 8) b c (mB (z_gN m 0)) (mB (z_gN oM.2 0))) ?_ (fun oM hM => ?_)
      · refine po_l (fun x : Int32 × Int32 × Int32 × Int32 × z_Sg => x.1 = nI A ∧ x.2.1 = b ∧ x.2.2.1 = c ∧ ∃ t, t ≤ 8 ∧ x.2.2.2.1 = nI t ∧ fr [] [] [] [0] m x.2.2.2.2 ∧ stQ A (fun x => x < t) b c (mB (z_gN m 0)) (mB (z_gN x.2.2.2.2 0))) (fun ih x hx hih => ?_) _ _ ⟨rfl, rfl, rfl, 0, by omega, rfl, fr_0, fun u hu => by rw [if_neg (fun z => by omega)]⟩
        obtain ⟨e1, e2, e3, t, ht, e4, f1, f2⟩ := hx
        show z_po (kb_Mo_store_22 ih x.1 x.2.1 x.2.2.1 x.2.2.2.1 x.2.2.2.2) _
        rw [e1, e2, e3, e4]
        unfold kb_Mo_store_22 k_Mo_store_48
        have le8 : ((8 : Int32) ≤ nI t) ↔ 8 ≤ t := (nI_cm (show 8 ≤ 65 by omega) (show t ≤ 65 by omega)).1
        have le4 : ((4 : Int32) ≤ nI t) ↔ 4 ≤ t := (nI_cm (show 4 ≤ 65 by omega) (show t ≤ 65 by omega)).1
        refine po_i (fun c8 => ?_) (fun c8 => ?_)
        · have : t = 8 := by have := le8.mp c8; omega
          subst this
          exact po_s ⟨rfl, f1, f2⟩
        · have t8 : t < 8 := by
            by_cases z : 8 ≤ t
            · exact absurd (le8.mpr z) c8
            · omega
          have em : (8 : Int32) * (nI t - nI t / (4 : Int32) * (4 : Int32)) = nI (8 * (t % 4)) := by
            have : ∀ t, t < 8 → (8 : Int32) * (nI t - nI t / (4 : Int32) * (4 : Int32)) = nI (8 * (t % 4)) := by decide +kernel
            exact this t t8
          have ecl : (nI A + nI t).toNatClampNeg = A + t := by rw [nI_add]; exact z_clp (by omega)
          have go : ∀ v : Int32, (v >>> ((nI (8 * (t % 4))) &&& 31)) &&& 255 = stb b c t → z_po (if z_bad (nI A + nI t) 32768 then none else (z_nm (z_sN x.2.2.2.2 0 (nI A + nI t).toNatClampNeg (vp_nar .byte ((v >>> (((8 : Int32) * (nI t - nI t / (4 : Int32) * (4 : Int32))) &&& 31)).toInt8.toInt32))) (fun q6 => z_nm (nI t + (1 : Int32)) (fun n7 => ih (nI A, b, c, n7, q6))))) (fun oM => oM.1 = 1 ∧ fr [] [] [] [0] m oM.2 ∧ stQ A (fun x => x < 8) b c (mB (z_gN m 0)) (mB (z_gN oM.2 0))) := by
            intro v hv
            refine po_g (fun _ => po_n (fun q6 e6 => po_n (fun n7 e7 => hih (nI A, b, c, n7, q6) ⟨rfl, rfl, rfl, t + 1, by omega, by rw [e7]; exact nI_S t, ?_, ?_⟩)))
            · rw [e6]; exact fr_sN f1 (by decide)
            · rw [e6, em]
              simp only [ecl]
              exact st_M1 hA t8 b c x.2.2.2.2 hv f2
          refine po_i (fun c4 => go c ?_) (fun c4 => go b ?_)
          · rw [shr_b c (by omega)]; unfold stb; rw [if_neg (by have := le4.mp c4; omega)]
          · rw [shr_b b (by omega)]; unfold stb
            rw [if_pos (by
              by_cases z : 4 ≤ t
              · exact absurd (le4.mpr z) c4
              · omega)]
      · obtain ⟨m1, m2, m3⟩ := hM
        refine ⟨by rw [k1, m1], ?_⟩
        obtain ⟨s1, s2, s3, s4, s5, s6, s7, s8, s9, s10, s11⟩ := h
        have kL : ∀ j, z_gL oK.2 j = z_gL k j := fun j => fr_L k2 j (by simp)
        have mL : ∀ j, z_gL oM.2 j = z_gL m j := fun j => fr_L m2 j (by simp)
        refine ⟨fun i hi => ?_, ?_, ?_, ?_, ?_, ?_, ?_, ?_, ?_, ?_, fun y => ?_⟩
        · rw [fr_M k2 0 (by decide), fr_M m2 0 (by decide)]; exact s1 i hi
        · rw [kL, mL]; exact s2
        · rw [kL, mL]; exact s3
        · rw [kL, mL]; exact s4
        · rw [kL, mL]; exact s5
        · rw [kL, mL]; exact s6
        · rw [kL, mL]; exact s7
        · rw [fr_I k2 1 (by decide), fr_I m2 0 (by decide)]; exact s8
        · rw [fr_I k2 2 (by decide), fr_I m2 2 (by decide)]; exact s9
        · rw [fr_I k2 0 (by decide), fr_N m2 1 (by decide)]; exact s10
        · by_cases cy : y < 0 ∨ ¬ y < 32768
          · rw [kB_hi cy, mB_hi cy]
          · obtain ⟨u, hu, eu⟩ := z_inn cy
            rw [eu, k3 u hu, m3 u hu, s11 (lN u)]
    · rw [if_neg c1] at hK
      cases hK
      exact po_f (fun z => c1 (cmp.mp z)) (po_s ⟨rfl, h⟩)
